set_option maxHeartbeats 16000000 in
set_option maxRecDepth 100000 in
theorem law_body {p : Program} {e : Env} {s : State} {m : MethodId} {below : List Frame} {meth : Method} {c : Code} (l : Launch) (hfl : l.stackTraces = false) {b L : Nat} {xs : Nat → Int32} (C0 : lw_At p s m meth c b L xs) (D : va_G) (cI cZ : ClassId) (A : Nat → Nat) (hK : va_K D vwCl (tysX cI cZ) s) (hG : gS s) (hX : gX s) (hZ : xS (fun q : Nat => s.heap.size ≤ q) s s.heap) (cs : St) (cw : St) (ct : St) (cu : St) (cl : St) (cb : St) (cp : St) (cg : St) (hf : fL_law L xs cs cw ct cu cl cb cp cg = some 1) : Bk p l e room_1 s m #[Value.ref b] below meth c (lw_Z below #[Value.ref b] s) (fun q : Nat => s.heap.size ≤ q) D 13 58 2906 (wLW cI cZ A cs cw ct cu cl cb cp cg) [(0, .ref b), (1, .ref (A 0)), (2, .ref (A 53)), (3, .ref (A 54)), (4, .ref (A 55)), (5, .ref (A 56)), (6, .ref (A 57))] 36 [] := by
  obtain ⟨hx, hb, hr, hml, hown, hts0, hXs, hbl, hlocks, hgv⟩ := C0
  have hts : ∀ w ∈ wsL_law, w.before #[Value.ref b] s = true := fun w h => hts0 w (wsL_law_in w h)
  have S : CallFix p m c cL_law 13 s #[Value.ref b] wsL_law RL := ⟨hx, hb, hml, hown, hts⟩
  have hA : ∀ q : Nat, s.heap.size ≤ q → (fun q : Nat => s.heap.size ≤ q) q := fun _ h => h
  have hbA : ¬ (fun q : Nat => s.heap.size ≤ q) b := Nat.not_le.mpr hbl
  have hR : ∀ (pc : Nat) (ls : Array Slot) (H : Heap) (locs : List Loc) (cells slots : Nat) (r9 : Int32), r9 = 1 → cells ≤ 788577 → slots ≤ 6735966 → decode cL_law pc = .ok (.ireturn, 1) → va_S (fun q : Nat => s.heap.size ≤ q) s.heap H locs → W p l e room_1 s m #[Value.ref b] below meth c H locs cells slots (lw_Z below #[Value.ref b] s) (F0 m pc ls [.int r9]) := by
    intro pc ls H locs cells slots r9 e9 hc hs hd hS
    subst e9
    refine va_forget (fun q hq => hS.2.2 q hq) ?_
    refine W.widen (k := 788577) (n := 6735966) hc hs ?_
    exact lw_ret hx hb hr hlocks hd
  have v111 := hts (.constant RL 111 (90000)) (by decide +kernel)
  have v112 := hts (.constant RL 112 (60000)) (by decide +kernel)
  have B572 : ∀ (cs : St) (cw : St) (ct : St) (cu : St) (cl : St) (cb : St) (cp : St) (cg : St) (x7 : Int32) (x8 : Int32) (c1 s1 : Nat) (hcb : c1 + 18 ≤ 1254) (hsb : s1 + 108 ≤ 10082) (k268 : (St × St × St × St × St × St × St × St × Int32 × Int32) → Option (Int32)) (hk268 : ∀ a268, k268 a268 = some 1 → Bk p l e room_1 s m #[Value.ref b] below meth c (lw_Z below #[Value.ref b] s) (fun q : Nat => s.heap.size ≤ q) D 13 (c1 + 18) (s1 + 108) (wLW cI cZ A (a268.1) (a268.2.1) (a268.2.2.1) (a268.2.2.2.1) (a268.2.2.2.2.1) (a268.2.2.2.2.2.1) (a268.2.2.2.2.2.2.1) (a268.2.2.2.2.2.2.2.1)) [(0, .ref b), (1, .ref (A 0)), (2, .ref (A 53)), (3, .ref (A 54)), (4, .ref (A 55)), (5, .ref (A 56)), (6, .ref (A 57)), (7, .int (a268.2.2.2.2.2.2.2.2.1)), (8, .int (a268.2.2.2.2.2.2.2.2.2))] 268 []), fL_law_J572 L xs k268 cs cw ct cu cl cb cp cg x7 x8 = some 1 → Bk p l e room_1 s m #[Value.ref b] below meth c (lw_Z below #[Value.ref b] s) (fun q : Nat => s.heap.size ≤ q) D 13 (c1 + 2) (s1 + 12) (wLW cI cZ A cs cw ct cu cl cb cp cg) [(0, .ref b), (1, .ref (A 0)), (2, .ref (A 53)), (3, .ref (A 54)), (4, .ref (A 55)), (5, .ref (A 56)), (6, .ref (A 57)), (7, .int x7), (8, .int x8)] 572 [] := by
    intro cs cw ct cu cl cb cp cg x7 x8 c1 s1 hcb hsb k268 hk268 hf
    unfold fL_law_J572 at hf
    intro H locs hP hD hS ls hl
    refine lv_iload hx hb dL_law_572 (lv_at hl 7 rfl) ?_
    refine lv_if_eq (tgt := 621) hx hb dL_law_574 (by decide) (fun c574 => ?_) (fun c574 => ?_)
    · have hf := if_t c574 hf
      refine lv_iconst (v := 0) hx hb dL_law_621 (by decide) ?_
      refine lv_istore (lv' := [(7, .int 0), (0, .ref b), (1, .ref (A 0)), (2, .ref (A 53)), (3, .ref (A 54)), (4, .ref (A 55)), (5, .ref (A 56)), (6, .ref (A 57)), (8, .int x8)]) hx hb dL_law_622 hl (by decide) rfl (fun ls hl => ?_)
      refine lv_iinc (v := x8 + 1) (lv' := [(8, .int (x8 + 1)), (7, .int 0), (0, .ref b), (1, .ref (A 0)), (2, .ref (A 53)), (3, .ref (A 54)), (4, .ref (A 55)), (5, .ref (A 56)), (6, .ref (A 57))]) hx hb dL_law_624 hl (k := 8) rfl rfl (by decide) rfl (fun ls hl => ?_)
      refine lv_goto (tgt := 268) hx hb dL_law_627 (by decide) ?_
      refine W.widen (k := c1 + 18) (n := s1 + 108) (by omega) (by omega) ?_
      exact hk268 _ hf H locs hP hD hS ls (lv_sub hl [2, 3, 4, 5, 6, 7, 8, 1, 0] rfl)
    · have hf := if_f c574 hf
      refine lv_aload_n hx hb dL_law_577 rfl (lv_at hl 1 rfl) ?_
      refine lv_aload_n hx hb dL_law_578 rfl (lv_at hl 2 rfl) ?_
      refine lv_aload_n hx hb dL_law_579 rfl (lv_at hl 3 rfl) ?_
      refine lv_aload hx hb dL_law_580 (lv_at hl 4 rfl) ?_
      refine lv_aload hx hb dL_law_582 (lv_at hl 5 rfl) ?_
      refine lv_aload hx hb dL_law_584 (lv_at hl 6 rfl) ?_
      obtain ⟨q586, h586, hf⟩ := bd_t hf
      refine cl_i (va_runS (As := [.ref (A 0), .ref (A 53), .ref (A 54), .ref (A 55), .ref (A 56), .ref (A 57)]) (rest := []) S (mL_areAll l hfl D cI cZ A cs cw ct cu cl cb cp cg H.size q586 h586) (va_cwS 6 hts gL_law_L_areAll rfl rfl rfl (by decide +kernel) ⟨Nat.le_of_ble_eq_true rfl, Nat.le_of_ble_eq_true rfl⟩) (xP_S (Cut.self _ []) hP hD hS hA hK hG hX hZ) rfl rfl hl.1 rfl (lv_room (Nat.le_of_ble_eq_true rfl)) dL_law_586 ⟨by show _ ≤ 788577; omega, by show _ ≤ 6735966; omega⟩) (Cut.self _ _) hP hD hS hA (fun H locs hP hD hS => ?_)
      refine lv_if_eq (tgt := 621) hx hb dL_law_589 (by decide) (fun c589 => ?_) (fun c589 => ?_)
      · have hf := if_t c589 hf
        refine lv_iconst (v := 0) hx hb dL_law_621 (by decide) ?_
        refine lv_istore (lv' := [(7, .int 0), (0, .ref b), (1, .ref (A 0)), (2, .ref (A 53)), (3, .ref (A 54)), (4, .ref (A 55)), (5, .ref (A 56)), (6, .ref (A 57)), (8, .int x8)]) hx hb dL_law_622 hl (by decide) rfl (fun ls hl => ?_)
        refine lv_iinc (v := x8 + 1) (lv' := [(8, .int (x8 + 1)), (7, .int 0), (0, .ref b), (1, .ref (A 0)), (2, .ref (A 53)), (3, .ref (A 54)), (4, .ref (A 55)), (5, .ref (A 56)), (6, .ref (A 57))]) hx hb dL_law_624 hl (k := 8) rfl rfl (by decide) rfl (fun ls hl => ?_)
        refine lv_goto (tgt := 268) hx hb dL_law_627 (by decide) ?_
        refine W.widen (k := c1 + 18) (n := s1 + 108) (by omega) (by omega) ?_
        exact hk268 _ hf H locs hP hD hS ls (lv_sub hl [2, 3, 4, 5, 6, 7, 8, 1, 0] rfl)
      · have hf := if_f c589 hf
        refine lv_aload hx hb dL_law_592 (lv_at hl 6 rfl) ?_
        refine lv_iconst (v := 3) hx hb dL_law_594 (by decide) ?_
        obtain ⟨c595, hf⟩ := ck_t hf
        refine va_iald (f := cg 4) hx hb hK hP 57 0 (gLW_57 _ _ _ _ _ _ _ _ _ _ _) rfl (inb_in c595) dL_law_595 ?_
        refine lv_if_eq (tgt := 617) hx hb dL_law_596 (by decide) (fun c596 => ?_) (fun c596 => ?_)
        · have hf := if_t c596 hf
          refine lv_iconst (v := 1) hx hb dL_law_617 (by decide) ?_
          refine lv_goto (tgt := 622) hx hb dL_law_618 (by decide) ?_
          refine lv_istore (lv' := [(7, .int 1), (0, .ref b), (1, .ref (A 0)), (2, .ref (A 53)), (3, .ref (A 54)), (4, .ref (A 55)), (5, .ref (A 56)), (6, .ref (A 57)), (8, .int x8)]) hx hb dL_law_622 hl (by decide) rfl (fun ls hl => ?_)
          refine lv_iinc (v := x8 + 1) (lv' := [(8, .int (x8 + 1)), (7, .int 1), (0, .ref b), (1, .ref (A 0)), (2, .ref (A 53)), (3, .ref (A 54)), (4, .ref (A 55)), (5, .ref (A 56)), (6, .ref (A 57))]) hx hb dL_law_624 hl (k := 8) rfl rfl (by decide) rfl (fun ls hl => ?_)
          refine lv_goto (tgt := 268) hx hb dL_law_627 (by decide) ?_
          refine W.widen (k := c1 + 18) (n := s1 + 108) (by omega) (by omega) ?_
          exact hk268 _ hf H locs hP hD hS ls (lv_sub hl [2, 3, 4, 5, 6, 7, 8, 1, 0] rfl)
        · have hf := if_f c596 hf
          refine lv_aload_n hx hb dL_law_599 rfl (lv_at hl 1 rfl) ?_
          obtain ⟨q600, h600, hf⟩ := bd_t hf
          refine cl_i (va_runV (As := []) (rest := []) S (mX5_isAtRest l D cI cZ (aLW_X5_0_1_2_3_4_5_6 A) cs cw (q586.2) cu cl cb cp H.size q600 h600) (cwV 0 hts gL_law_X5_isAtRest rfl rfl rfl (by decide +kernel) ⟨Nat.le_of_ble_eq_true rfl, Nat.le_of_ble_eq_true rfl⟩) (mP_V (ci := 5) (cutLW_X5_0_1_2_3_4_5_6 _ _ _ _ _ _ _ _ _ _ _ st0 st0 st0 st0 st0 st0 st0) hP hD hK hG rfl (gX5_0 _ _ _ _ _ _ _ _ _ _)) rfl rfl hl.1 rfl (lv_room (Nat.le_of_ble_eq_true rfl)) dL_law_600 ⟨by show _ ≤ 788577; omega, by show _ ≤ 6735966; omega⟩) (cutLW_X5_0_1_2_3_4_5_6 _ _ _ _ _ _ _ _ _ _ _ _ _ _ _ _ _ _) hP hD hS hA (fun H locs hP hD hS => ?_)
          refine lv_if_eq (tgt := 617) hx hb dL_law_603 (by decide) (fun c603 => ?_) (fun c603 => ?_)
          · have hf := if_t c603 hf
            refine lv_iconst (v := 1) hx hb dL_law_617 (by decide) ?_
            refine lv_goto (tgt := 622) hx hb dL_law_618 (by decide) ?_
            refine lv_istore (lv' := [(7, .int 1), (0, .ref b), (1, .ref (A 0)), (2, .ref (A 53)), (3, .ref (A 54)), (4, .ref (A 55)), (5, .ref (A 56)), (6, .ref (A 57)), (8, .int x8)]) hx hb dL_law_622 hl (by decide) rfl (fun ls hl => ?_)
            refine lv_iinc (v := x8 + 1) (lv' := [(8, .int (x8 + 1)), (7, .int 1), (0, .ref b), (1, .ref (A 0)), (2, .ref (A 53)), (3, .ref (A 54)), (4, .ref (A 55)), (5, .ref (A 56)), (6, .ref (A 57))]) hx hb dL_law_624 hl (k := 8) rfl rfl (by decide) rfl (fun ls hl => ?_)
            refine lv_goto (tgt := 268) hx hb dL_law_627 (by decide) ?_
            refine W.widen (k := c1 + 18) (n := s1 + 108) (by omega) (by omega) ?_
            exact hk268 _ hf H locs hP hD hS ls (lv_sub hl [2, 3, 4, 5, 6, 7, 8, 1, 0] rfl)
          · have hf := if_f c603 hf
            refine lv_aload_n hx hb dL_law_606 rfl (lv_at hl 1 rfl) ?_
            refine lv_aload_n hx hb dL_law_607 rfl (lv_at hl 2 rfl) ?_
            refine lv_aload_n hx hb dL_law_608 rfl (lv_at hl 3 rfl) ?_
            refine lv_aload hx hb dL_law_609 (lv_at hl 5 rfl) ?_
            obtain ⟨q611, h611, hf⟩ := bd_t hf
            refine cl_i (va_runS (As := [.ref (A 0), .ref (A 53), .ref (A 54), .ref (A 56)]) (rest := []) S (mL_isTree l hfl D cI cZ A cs cw (q586.2) (q600.2) cl cb cp cg H.size q611 h611) (va_cwS 4 hts gL_law_L_isTree rfl rfl rfl (by decide +kernel) ⟨Nat.le_of_ble_eq_true rfl, Nat.le_of_ble_eq_true rfl⟩) (xP_S (Cut.self _ []) hP hD hS hA hK hG hX hZ) rfl rfl hl.1 rfl (lv_room (Nat.le_of_ble_eq_true rfl)) dL_law_611 ⟨by show _ ≤ 788577; omega, by show _ ≤ 6735966; omega⟩) (Cut.self _ _) hP hD hS hA (fun H locs hP hD hS => ?_)
            refine lv_if_eq (tgt := 621) hx hb dL_law_614 (by decide) (fun c614 => ?_) (fun c614 => ?_)
            · have hf := if_t c614 hf
              refine lv_iconst (v := 0) hx hb dL_law_621 (by decide) ?_
              refine lv_istore (lv' := [(7, .int 0), (0, .ref b), (1, .ref (A 0)), (2, .ref (A 53)), (3, .ref (A 54)), (4, .ref (A 55)), (5, .ref (A 56)), (6, .ref (A 57)), (8, .int x8)]) hx hb dL_law_622 hl (by decide) rfl (fun ls hl => ?_)
              refine lv_iinc (v := x8 + 1) (lv' := [(8, .int (x8 + 1)), (7, .int 0), (0, .ref b), (1, .ref (A 0)), (2, .ref (A 53)), (3, .ref (A 54)), (4, .ref (A 55)), (5, .ref (A 56)), (6, .ref (A 57))]) hx hb dL_law_624 hl (k := 8) rfl rfl (by decide) rfl (fun ls hl => ?_)
              refine lv_goto (tgt := 268) hx hb dL_law_627 (by decide) ?_
              refine W.widen (k := c1 + 18) (n := s1 + 108) (by omega) (by omega) ?_
              exact hk268 _ hf H locs hP hD hS ls (lv_sub hl [2, 3, 4, 5, 6, 7, 8, 1, 0] rfl)
            · have hf := if_f c614 hf
              refine lv_iconst (v := 1) hx hb dL_law_617 (by decide) ?_
              refine lv_goto (tgt := 622) hx hb dL_law_618 (by decide) ?_
              refine lv_istore (lv' := [(7, .int 1), (0, .ref b), (1, .ref (A 0)), (2, .ref (A 53)), (3, .ref (A 54)), (4, .ref (A 55)), (5, .ref (A 56)), (6, .ref (A 57)), (8, .int x8)]) hx hb dL_law_622 hl (by decide) rfl (fun ls hl => ?_)
              refine lv_iinc (v := x8 + 1) (lv' := [(8, .int (x8 + 1)), (7, .int 1), (0, .ref b), (1, .ref (A 0)), (2, .ref (A 53)), (3, .ref (A 54)), (4, .ref (A 55)), (5, .ref (A 56)), (6, .ref (A 57))]) hx hb dL_law_624 hl (k := 8) rfl rfl (by decide) rfl (fun ls hl => ?_)
              refine lv_goto (tgt := 268) hx hb dL_law_627 (by decide) ?_
              refine W.widen (k := c1 + 18) (n := s1 + 108) (by omega) (by omega) ?_
              exact hk268 _ hf H locs hP hD hS ls (lv_sub hl [2, 3, 4, 5, 6, 7, 8, 1, 0] rfl)
  have B570 : ∀ (cs : St) (cw : St) (ct : St) (cu : St) (cl : St) (cb : St) (cp : St) (cg : St) (x8 : Int32) (y0 : Int32) (c1 s1 : Nat) (hcb : c1 + 18 ≤ 1254) (hsb : s1 + 108 ≤ 10082) (k268 : (St × St × St × St × St × St × St × St × Int32 × Int32) → Option (Int32)) (hk268 : ∀ a268, k268 a268 = some 1 → Bk p l e room_1 s m #[Value.ref b] below meth c (lw_Z below #[Value.ref b] s) (fun q : Nat => s.heap.size ≤ q) D 13 (c1 + 18) (s1 + 108) (wLW cI cZ A (a268.1) (a268.2.1) (a268.2.2.1) (a268.2.2.2.1) (a268.2.2.2.2.1) (a268.2.2.2.2.2.1) (a268.2.2.2.2.2.2.1) (a268.2.2.2.2.2.2.2.1)) [(0, .ref b), (1, .ref (A 0)), (2, .ref (A 53)), (3, .ref (A 54)), (4, .ref (A 55)), (5, .ref (A 56)), (6, .ref (A 57)), (7, .int (a268.2.2.2.2.2.2.2.2.1)), (8, .int (a268.2.2.2.2.2.2.2.2.2))] 268 []), fL_law_J570 L xs k268 cs cw ct cu cl cb cp cg x8 y0 = some 1 → Bk p l e room_1 s m #[Value.ref b] below meth c (lw_Z below #[Value.ref b] s) (fun q : Nat => s.heap.size ≤ q) D 13 (c1 + 0) (s1 + 0) (wLW cI cZ A cs cw ct cu cl cb cp cg) [(0, .ref b), (1, .ref (A 0)), (2, .ref (A 53)), (3, .ref (A 54)), (4, .ref (A 55)), (5, .ref (A 56)), (6, .ref (A 57)), (8, .int x8)] 570 [.int y0] := by
    intro cs cw ct cu cl cb cp cg x8 y0 c1 s1 hcb hsb k268 hk268 hf
    unfold fL_law_J570 at hf
    intro H locs hP hD hS ls hl
    refine lv_istore (lv' := [(7, .int y0), (0, .ref b), (1, .ref (A 0)), (2, .ref (A 53)), (3, .ref (A 54)), (4, .ref (A 55)), (5, .ref (A 56)), (6, .ref (A 57)), (8, .int x8)]) hx hb dL_law_570 hl (by decide) rfl (fun ls hl => ?_)
    refine W.widen (k := c1 + 2) (n := s1 + 12) (by omega) (by omega) ?_
    exact B572 _ _ _ _ _ _ _ _ _ _ c1 s1 hcb hsb k268 hk268 hf H locs hP hD hS ls (lv_sub hl [1, 2, 3, 4, 5, 6, 7, 0, 8] rfl)
  have B541 : ∀ (cs : St) (cw : St) (ct : St) (cu : St) (cl : St) (cb : St) (cp : St) (cg : St) (x8 : Int32) (y0 : Int32) (c1 s1 : Nat) (hcb : c1 + 18 ≤ 1254) (hsb : s1 + 108 ≤ 10082) (k268 : (St × St × St × St × St × St × St × St × Int32 × Int32) → Option (Int32)) (hk268 : ∀ a268, k268 a268 = some 1 → Bk p l e room_1 s m #[Value.ref b] below meth c (lw_Z below #[Value.ref b] s) (fun q : Nat => s.heap.size ≤ q) D 13 (c1 + 18) (s1 + 108) (wLW cI cZ A (a268.1) (a268.2.1) (a268.2.2.1) (a268.2.2.2.1) (a268.2.2.2.2.1) (a268.2.2.2.2.2.1) (a268.2.2.2.2.2.2.1) (a268.2.2.2.2.2.2.2.1)) [(0, .ref b), (1, .ref (A 0)), (2, .ref (A 53)), (3, .ref (A 54)), (4, .ref (A 55)), (5, .ref (A 56)), (6, .ref (A 57)), (7, .int (a268.2.2.2.2.2.2.2.2.1)), (8, .int (a268.2.2.2.2.2.2.2.2.2))] 268 []), fL_law_J541 L xs k268 cs cw ct cu cl cb cp cg x8 y0 = some 1 → Bk p l e room_1 s m #[Value.ref b] below meth c (lw_Z below #[Value.ref b] s) (fun q : Nat => s.heap.size ≤ q) D 13 (c1 + 0) (s1 + 0) (wLW cI cZ A cs cw ct cu cl cb cp cg) [(0, .ref b), (1, .ref (A 0)), (2, .ref (A 53)), (3, .ref (A 54)), (4, .ref (A 55)), (5, .ref (A 56)), (6, .ref (A 57)), (8, .int x8)] 541 [.int y0] := by
    intro cs cw ct cu cl cb cp cg x8 y0 c1 s1 hcb hsb k268 hk268 hf
    unfold fL_law_J541 at hf
    intro H locs hP hD hS ls hl
    refine lv_istore (lv' := [(12, .int y0), (0, .ref b), (1, .ref (A 0)), (2, .ref (A 53)), (3, .ref (A 54)), (4, .ref (A 55)), (5, .ref (A 56)), (6, .ref (A 57)), (8, .int x8)]) hx hb dL_law_541 hl (by decide) rfl (fun ls hl => ?_)
    refine lv_aload hx hb dL_law_543 (lv_at hl 7 rfl) ?_
    refine lv_iconst (v := 2) hx hb dL_law_545 (by decide) ?_
    refine lv_dup2_11 hx hb dL_law_546 rfl rfl ?_
    obtain ⟨c547, hf⟩ := ck_t hf
    refine va_iald (f := cg 4) hx hb hK hP 57 0 (gLW_57 _ _ _ _ _ _ _ _ _ _ _) rfl (inb_in c547) dL_law_547 ?_
    refine lv_iload hx hb dL_law_548 (lv_at hl 0 rfl) ?_
    refine lv_iadd hx hb dL_law_550 ?_
    obtain ⟨c551, hf⟩ := ck_t hf
    refine st_i hx hb hK hP hD hS 57 0 (sLW_57 _ _ _ _ _ _ _ _ _ _ _ _ _) (gLW_57 _ _ _ _ _ _ _ _ _ _ _) rfl c551 dL_law_551 (fun H locs hP hD hS => ?_)
    refine lv_aload_n hx hb dL_law_552 rfl (lv_at hl 2 rfl) ?_
    refine lv_iload hx hb dL_law_553 (lv_at hl 0 rfl) ?_
    obtain ⟨q555, h555, hf⟩ := bn_t hf
    refine cl_i (va_runV (As := [.int y0]) (rest := []) S (mX5_beat l D cI cZ (aLW_X5_0_1_2_3_4_5_6 A) cs cw ct cu cl cb cp y0 H.size q555 h555) (cwV 1 hts gL_law_X5_beat rfl rfl rfl (by decide +kernel) ⟨Nat.le_of_ble_eq_true rfl, Nat.le_of_ble_eq_true rfl⟩) (mP_V (ci := 5) (cutLW_X5_0_1_2_3_4_5_6 _ _ _ _ _ _ _ _ _ _ _ st0 st0 st0 st0 st0 st0 st0) hP hD hK hG rfl (gX5_0 _ _ _ _ _ _ _ _ _ _)) rfl rfl hl.1 rfl (lv_room (Nat.le_of_ble_eq_true rfl)) dL_law_555 ⟨by show _ ≤ 788577; omega, by show _ ≤ 6735966; omega⟩) (cutLW_X5_0_1_2_3_4_5_6 _ _ _ _ _ _ _ _ _ _ _ _ _ _ _ _ _ _) hP hD hS hA (fun H locs hP hD hS => ?_)
    refine lv_aload hx hb dL_law_558 (lv_at hl 7 rfl) ?_
    refine lv_iconst (v := 2) hx hb dL_law_560 (by decide) ?_
    obtain ⟨c561, hf⟩ := ck_t hf
    refine va_iald (f := (aS cg 4 2 ((cg 4 (2 : Int32).toNatClampNeg) + y0)) 4) hx hb hK hP 57 0 (gLW_57 _ _ _ _ _ _ _ _ _ _ _) rfl (inb_in c561) dL_law_561 ?_
    refine lv_icmp_ne (tgt := 569) hx hb dL_law_562 (by decide) (fun c562 => ?_) (fun c562 => ?_)
    · have hf := if_f c562 hf
      refine lv_iconst (v := 0) hx hb dL_law_569 (by decide) ?_
      refine W.widen (k := c1 + 0) (n := s1 + 0) (by omega) (by omega) ?_
      exact B570 _ _ _ _ _ _ _ _ _ _ c1 s1 hcb hsb k268 hk268 hf H locs hP hD hS ls (lv_sub hl [1, 2, 3, 4, 5, 6, 7, 8] rfl)
    · have hf := if_t c562 hf
      refine lv_iconst (v := 1) hx hb dL_law_565 (by decide) ?_
      refine lv_goto (tgt := 570) hx hb dL_law_566 (by decide) ?_
      refine W.widen (k := c1 + 0) (n := s1 + 0) (by omega) (by omega) ?_
      exact B570 _ _ _ _ _ _ _ _ _ _ c1 s1 hcb hsb k268 hk268 hf H locs hP hD hS ls (lv_sub hl [1, 2, 3, 4, 5, 6, 7, 8] rfl)
  have B487 : ∀ (cs : St) (cw : St) (ct : St) (cu : St) (cl : St) (cb : St) (cp : St) (cg : St) (x8 : Int32) (x12 : Int32) (y0 : Int32) (c1 s1 : Nat) (hcb : c1 + 18 ≤ 1254) (hsb : s1 + 108 ≤ 10082) (k268 : (St × St × St × St × St × St × St × St × Int32 × Int32) → Option (Int32)) (hk268 : ∀ a268, k268 a268 = some 1 → Bk p l e room_1 s m #[Value.ref b] below meth c (lw_Z below #[Value.ref b] s) (fun q : Nat => s.heap.size ≤ q) D 13 (c1 + 18) (s1 + 108) (wLW cI cZ A (a268.1) (a268.2.1) (a268.2.2.1) (a268.2.2.2.1) (a268.2.2.2.2.1) (a268.2.2.2.2.2.1) (a268.2.2.2.2.2.2.1) (a268.2.2.2.2.2.2.2.1)) [(0, .ref b), (1, .ref (A 0)), (2, .ref (A 53)), (3, .ref (A 54)), (4, .ref (A 55)), (5, .ref (A 56)), (6, .ref (A 57)), (7, .int (a268.2.2.2.2.2.2.2.2.1)), (8, .int (a268.2.2.2.2.2.2.2.2.2))] 268 []), fL_law_J487 L xs k268 cs cw ct cu cl cb cp cg x8 x12 y0 = some 1 → Bk p l e room_1 s m #[Value.ref b] below meth c (lw_Z below #[Value.ref b] s) (fun q : Nat => s.heap.size ≤ q) D 13 (c1 + 0) (s1 + 0) (wLW cI cZ A cs cw ct cu cl cb cp cg) [(0, .ref b), (1, .ref (A 0)), (2, .ref (A 53)), (3, .ref (A 54)), (4, .ref (A 55)), (5, .ref (A 56)), (6, .ref (A 57)), (8, .int x8), (12, .int x12)] 487 [.int y0] := by
    intro cs cw ct cu cl cb cp cg x8 x12 y0 c1 s1 hcb hsb k268 hk268 hf
    unfold fL_law_J487 at hf
    intro H locs hP hD hS ls hl
    refine lv_istore (lv' := [(7, .int y0), (0, .ref b), (1, .ref (A 0)), (2, .ref (A 53)), (3, .ref (A 54)), (4, .ref (A 55)), (5, .ref (A 56)), (6, .ref (A 57)), (8, .int x8), (12, .int x12)]) hx hb dL_law_487 hl (by decide) rfl (fun ls hl => ?_)
    refine lv_aload hx hb dL_law_489 (lv_at hl 7 rfl) ?_
    refine lv_iconst (v := 5) hx hb dL_law_491 (by decide) ?_
    refine lv_iload hx hb dL_law_492 (lv_at hl 9 rfl) ?_
    obtain ⟨c494, hf⟩ := ck_t hf
    refine st_i hx hb hK hP hD hS 57 0 (sLW_57 _ _ _ _ _ _ _ _ _ _ _ _ _) (gLW_57 _ _ _ _ _ _ _ _ _ _ _) rfl c494 dL_law_494 (fun H locs hP hD hS => ?_)
    refine lv_goto (tgt := 572) hx hb dL_law_495 (by decide) ?_
    refine W.widen (k := c1 + 2) (n := s1 + 12) (by omega) (by omega) ?_
    exact B572 _ _ _ _ _ _ _ _ _ _ c1 s1 hcb hsb k268 hk268 hf H locs hP hD hS ls (lv_sub hl [1, 2, 3, 4, 5, 6, 7, 0, 8] rfl)
  have B441 : ∀ (cs : St) (cw : St) (ct : St) (cu : St) (cl : St) (cb : St) (cp : St) (cg : St) (x8 : Int32) (x10 : Int32) (x11 : Int32) (y0 : Int32) (c1 s1 : Nat) (hcb : c1 + 18 ≤ 1254) (hsb : s1 + 108 ≤ 10082) (k268 : (St × St × St × St × St × St × St × St × Int32 × Int32) → Option (Int32)) (hk268 : ∀ a268, k268 a268 = some 1 → Bk p l e room_1 s m #[Value.ref b] below meth c (lw_Z below #[Value.ref b] s) (fun q : Nat => s.heap.size ≤ q) D 13 (c1 + 18) (s1 + 108) (wLW cI cZ A (a268.1) (a268.2.1) (a268.2.2.1) (a268.2.2.2.1) (a268.2.2.2.2.1) (a268.2.2.2.2.2.1) (a268.2.2.2.2.2.2.1) (a268.2.2.2.2.2.2.2.1)) [(0, .ref b), (1, .ref (A 0)), (2, .ref (A 53)), (3, .ref (A 54)), (4, .ref (A 55)), (5, .ref (A 56)), (6, .ref (A 57)), (7, .int (a268.2.2.2.2.2.2.2.2.1)), (8, .int (a268.2.2.2.2.2.2.2.2.2))] 268 []), fL_law_J441 L xs k268 cs cw ct cu cl cb cp cg x8 x10 x11 y0 = some 1 → Bk p l e room_1 s m #[Value.ref b] below meth c (lw_Z below #[Value.ref b] s) (fun q : Nat => s.heap.size ≤ q) D 13 (c1 + 0) (s1 + 0) (wLW cI cZ A cs cw ct cu cl cb cp cg) [(0, .ref b), (1, .ref (A 0)), (2, .ref (A 53)), (3, .ref (A 54)), (4, .ref (A 55)), (5, .ref (A 56)), (6, .ref (A 57)), (8, .int x8), (10, .int x10), (11, .int x11)] 441 [.int y0, .ref (A 57), .ref (A 56), .ref (A 55), .ref (A 54), .ref (A 53), .ref (A 0)] := by
    intro cs cw ct cu cl cb cp cg x8 x10 x11 y0 c1 s1 hcb hsb k268 hk268 hf
    unfold fL_law_J441 at hf
    intro H locs hP hD hS ls hl
    refine lv_iload hx hb dL_law_441 (lv_at hl 8 rfl) ?_
    refine lv_iload hx hb dL_law_443 (lv_at hl 9 rfl) ?_
    obtain ⟨q445, h445, hf⟩ := bd_t hf
    refine cl_i (va_runS (As := [.ref (A 0), .ref (A 53), .ref (A 54), .ref (A 55), .ref (A 56), .ref (A 57), .int y0, .int x10, .int x11]) (rest := []) S (mL_isPort l hfl D cI cZ A cs cw ct cu cl cb cp cg y0 x10 x11 H.size q445 h445) (va_cwS 9 hts gL_law_L_isPort rfl rfl rfl (by decide +kernel) ⟨Nat.le_of_ble_eq_true rfl, Nat.le_of_ble_eq_true rfl⟩) (xP_S (Cut.self _ []) hP hD hS hA hK hG hX hZ) rfl rfl hl.1 rfl (lv_room (Nat.le_of_ble_eq_true rfl)) dL_law_445 ⟨by show _ ≤ 788577; omega, by show _ ≤ 6735966; omega⟩) (Cut.self _ _) hP hD hS hA (fun H locs hP hD hS => ?_)
    refine lv_istore (lv' := [(7, .int q445.1), (0, .ref b), (1, .ref (A 0)), (2, .ref (A 53)), (3, .ref (A 54)), (4, .ref (A 55)), (5, .ref (A 56)), (6, .ref (A 57)), (8, .int x8), (10, .int x10), (11, .int x11)]) hx hb dL_law_448 hl (by decide) rfl (fun ls hl => ?_)
    refine lv_goto (tgt := 572) hx hb dL_law_450 (by decide) ?_
    refine W.widen (k := c1 + 2) (n := s1 + 12) (by omega) (by omega) ?_
    exact B572 _ _ _ _ _ _ _ _ _ _ c1 s1 hcb hsb k268 hk268 hf H locs hP hD hS ls (lv_sub hl [1, 2, 3, 4, 5, 6, 7, 0, 8] rfl)
  have B439 : ∀ (cs : St) (cw : St) (ct : St) (cu : St) (cl : St) (cb : St) (cp : St) (cg : St) (x8 : Int32) (x10 : Int32) (x11 : Int32) (x12 : Int32) (c1 s1 : Nat) (hcb : c1 + 18 ≤ 1254) (hsb : s1 + 108 ≤ 10082) (k268 : (St × St × St × St × St × St × St × St × Int32 × Int32) → Option (Int32)) (hk268 : ∀ a268, k268 a268 = some 1 → Bk p l e room_1 s m #[Value.ref b] below meth c (lw_Z below #[Value.ref b] s) (fun q : Nat => s.heap.size ≤ q) D 13 (c1 + 18) (s1 + 108) (wLW cI cZ A (a268.1) (a268.2.1) (a268.2.2.1) (a268.2.2.2.1) (a268.2.2.2.2.1) (a268.2.2.2.2.2.1) (a268.2.2.2.2.2.2.1) (a268.2.2.2.2.2.2.2.1)) [(0, .ref b), (1, .ref (A 0)), (2, .ref (A 53)), (3, .ref (A 54)), (4, .ref (A 55)), (5, .ref (A 56)), (6, .ref (A 57)), (7, .int (a268.2.2.2.2.2.2.2.2.1)), (8, .int (a268.2.2.2.2.2.2.2.2.2))] 268 []), fL_law_J439 L xs k268 cs cw ct cu cl cb cp cg x8 x10 x11 x12 = some 1 → Bk p l e room_1 s m #[Value.ref b] below meth c (lw_Z below #[Value.ref b] s) (fun q : Nat => s.heap.size ≤ q) D 13 (c1 + 0) (s1 + 0) (wLW cI cZ A cs cw ct cu cl cb cp cg) [(0, .ref b), (1, .ref (A 0)), (2, .ref (A 53)), (3, .ref (A 54)), (4, .ref (A 55)), (5, .ref (A 56)), (6, .ref (A 57)), (8, .int x8), (10, .int x10), (11, .int x11), (12, .int x12)] 439 [.ref (A 57), .ref (A 56), .ref (A 55), .ref (A 54), .ref (A 53), .ref (A 0)] := by
    intro cs cw ct cu cl cb cp cg x8 x10 x11 x12 c1 s1 hcb hsb k268 hk268 hf
    unfold fL_law_J439 at hf
    intro H locs hP hD hS ls hl
    refine lv_iload hx hb dL_law_439 (lv_at hl 10 rfl) ?_
    refine W.widen (k := c1 + 0) (n := s1 + 0) (by omega) (by omega) ?_
    exact B441 _ _ _ _ _ _ _ _ _ _ _ _ c1 s1 hcb hsb k268 hk268 hf H locs hP hD hS ls (lv_sub hl [0, 1, 2, 3, 4, 5, 6, 7, 8, 9] rfl)
  have B301 : ∀ (cs : St) (cw : St) (ct : St) (cu : St) (cl : St) (cb : St) (cp : St) (cg : St) (x8 : Int32) (y0 : Int32) (c1 s1 : Nat) (hcb : c1 + 18 ≤ 1254) (hsb : s1 + 108 ≤ 10082) (k268 : (St × St × St × St × St × St × St × St × Int32 × Int32) → Option (Int32)) (hk268 : ∀ a268, k268 a268 = some 1 → Bk p l e room_1 s m #[Value.ref b] below meth c (lw_Z below #[Value.ref b] s) (fun q : Nat => s.heap.size ≤ q) D 13 (c1 + 18) (s1 + 108) (wLW cI cZ A (a268.1) (a268.2.1) (a268.2.2.1) (a268.2.2.2.1) (a268.2.2.2.2.1) (a268.2.2.2.2.2.1) (a268.2.2.2.2.2.2.1) (a268.2.2.2.2.2.2.2.1)) [(0, .ref b), (1, .ref (A 0)), (2, .ref (A 53)), (3, .ref (A 54)), (4, .ref (A 55)), (5, .ref (A 56)), (6, .ref (A 57)), (7, .int (a268.2.2.2.2.2.2.2.2.1)), (8, .int (a268.2.2.2.2.2.2.2.2.2))] 268 []), fL_law_J301 L xs k268 cs cw ct cu cl cb cp cg x8 y0 = some 1 → Bk p l e room_1 s m #[Value.ref b] below meth c (lw_Z below #[Value.ref b] s) (fun q : Nat => s.heap.size ≤ q) D 13 (c1 + 0) (s1 + 0) (wLW cI cZ A cs cw ct cu cl cb cp cg) [(0, .ref b), (1, .ref (A 0)), (2, .ref (A 53)), (3, .ref (A 54)), (4, .ref (A 55)), (5, .ref (A 56)), (6, .ref (A 57)), (8, .int x8)] 301 [.int y0] := by
    intro cs cw ct cu cl cb cp cg x8 y0 c1 s1 hcb hsb k268 hk268 hf
    unfold fL_law_J301 at hf
    intro H locs hP hD hS ls hl
    refine lv_istore (lv' := [(9, .int y0), (0, .ref b), (1, .ref (A 0)), (2, .ref (A 53)), (3, .ref (A 54)), (4, .ref (A 55)), (5, .ref (A 56)), (6, .ref (A 57)), (8, .int x8)]) hx hb dL_law_301 hl (by decide) rfl (fun ls hl => ?_)
    refine lv_aload_n hx hb dL_law_303 rfl (lv_at hl 1 rfl) ?_
    refine lv_iconst (v := 3) hx hb dL_law_304 (by decide) ?_
    refine lv_iload hx hb dL_law_305 (lv_at hl 8 rfl) ?_
    refine lv_imul hx hb dL_law_307 ?_
    refine lv_iconst (v := 1) hx hb dL_law_308 (by decide) ?_
    refine lv_iadd hx hb dL_law_309 ?_
    refine lv_ldc (v := 90000) hx hb hown v111 dL_law_310 ?_
    obtain ⟨q312, h312, hf⟩ := bd_t hf
    refine cl_i (va_runS (As := [.ref b, .int ((3 * x8) + 1), .int 90000]) (rest := []) S (mL_part l D b L xs ((3 * x8) + 1) 90000 H.size q312 h312) (va_cwS 3 hts gL_law_L_part rfl rfl rfl (by decide +kernel) ⟨Nat.le_of_ble_eq_true rfl, Nat.le_of_ble_eq_true rfl⟩) (pP_S hXs hbl hbA hS ((3 * x8) + 1) 90000) rfl rfl hl.1 rfl (lv_room (Nat.le_of_ble_eq_true rfl)) dL_law_312 ⟨by show _ ≤ 788577; omega, by show _ ≤ 6735966; omega⟩) (Cut.nil _) hP hD hS hA (fun H locs hP hD hS => ?_)
    refine lv_istore (lv' := [(10, .int q312), (9, .int y0), (0, .ref b), (1, .ref (A 0)), (2, .ref (A 53)), (3, .ref (A 54)), (4, .ref (A 55)), (5, .ref (A 56)), (6, .ref (A 57)), (8, .int x8)]) hx hb dL_law_315 hl (by decide) rfl (fun ls hl => ?_)
    refine lv_aload_n hx hb dL_law_317 rfl (lv_at hl 2 rfl) ?_
    refine lv_iconst (v := 3) hx hb dL_law_318 (by decide) ?_
    refine lv_iload hx hb dL_law_319 (lv_at hl 9 rfl) ?_
    refine lv_imul hx hb dL_law_321 ?_
    refine lv_iconst (v := 2) hx hb dL_law_322 (by decide) ?_
    refine lv_iadd hx hb dL_law_323 ?_
    refine lv_ldc (v := 60000) hx hb hown v112 dL_law_324 ?_
    obtain ⟨q326, h326, hf⟩ := bd_t hf
    refine cl_i (va_runS (As := [.ref b, .int ((3 * x8) + 2), .int 60000]) (rest := []) S (mL_part l D b L xs ((3 * x8) + 2) 60000 H.size q326 h326) (va_cwS 3 hts gL_law_L_part rfl rfl rfl (by decide +kernel) ⟨Nat.le_of_ble_eq_true rfl, Nat.le_of_ble_eq_true rfl⟩) (pP_S hXs hbl hbA hS ((3 * x8) + 2) 60000) rfl rfl hl.1 rfl (lv_room (Nat.le_of_ble_eq_true rfl)) dL_law_326 ⟨by show _ ≤ 788577; omega, by show _ ≤ 6735966; omega⟩) (Cut.nil _) hP hD hS hA (fun H locs hP hD hS => ?_)
    refine lv_istore (lv' := [(11, .int q326), (10, .int q312), (9, .int y0), (0, .ref b), (1, .ref (A 0)), (2, .ref (A 53)), (3, .ref (A 54)), (4, .ref (A 55)), (5, .ref (A 56)), (6, .ref (A 57)), (8, .int x8)]) hx hb dL_law_329 hl (by decide) rfl (fun ls hl => ?_)
    refine lv_iload hx hb dL_law_331 (lv_at hl 2 rfl) ?_
    refine lv_iconst (v := 5) hx hb dL_law_333 (by decide) ?_
    refine lv_icmp_ge (tgt := 359) hx hb dL_law_334 (by decide) (fun c334 => ?_) (fun c334 => ?_)
    · have hf := if_t c334 hf
      refine lv_iload hx hb dL_law_359 (lv_at hl 2 rfl) ?_
      refine lv_bipush (v := 9) hx hb dL_law_361 (by decide) ?_
      refine lv_icmp_ge (tgt := 388) hx hb dL_law_363 (by decide) (fun c363 => ?_) (fun c363 => ?_)
      · have hf := if_t c363 hf
        refine lv_iload hx hb dL_law_388 (lv_at hl 2 rfl) ?_
        refine lv_bipush (v := 16) hx hb dL_law_390 (by decide) ?_
        refine lv_icmp_ge (tgt := 453) hx hb dL_law_392 (by decide) (fun c392 => ?_) (fun c392 => ?_)
        · have hf := if_t c392 hf
          refine lv_iload hx hb dL_law_453 (lv_at hl 2 rfl) ?_
          refine lv_bipush (v := 16) hx hb dL_law_455 (by decide) ?_
          refine lv_icmp_ne (tgt := 498) hx hb dL_law_457 (by decide) (fun c457 => ?_) (fun c457 => ?_)
          · have hf := if_f c457 hf
            refine lv_iload hx hb dL_law_498 (lv_at hl 2 rfl) ?_
            refine lv_bipush (v := 23) hx hb dL_law_500 (by decide) ?_
            refine lv_icmp_ge (tgt := 523) hx hb dL_law_502 (by decide) (fun c502 => ?_) (fun c502 => ?_)
            · have hf := if_t c502 hf
              refine lv_iload hx hb dL_law_523 (lv_at hl 1 rfl) ?_
              refine lv_iconst (v := 4) hx hb dL_law_525 (by decide) ?_
              refine lv_irem hx hb dL_law_526 (by decide) ?_
              refine lv_if_ne (tgt := 535) hx hb dL_law_527 (by decide) (fun c527 => ?_) (fun c527 => ?_)
              · have hf := if_f c527 hf
                refine lv_iconst (v := 1) hx hb dL_law_535 (by decide) ?_
                refine lv_iload hx hb dL_law_536 (lv_at hl 1 rfl) ?_
                refine lv_iconst (v := 5) hx hb dL_law_538 (by decide) ?_
                refine lv_irem hx hb dL_law_539 (by decide) ?_
                refine lv_iadd hx hb dL_law_540 ?_
                refine W.widen (k := c1 + 0) (n := s1 + 0) (by omega) (by omega) ?_
                exact B541 _ _ _ _ _ _ _ _ _ _ c1 s1 hcb hsb k268 hk268 hf H locs hP hD hS ls (lv_sub hl [3, 4, 5, 6, 7, 8, 9, 10] rfl)
              · have hf := if_t c527 hf
                refine lv_bipush (v := 20) hx hb dL_law_530 (by decide) ?_
                refine lv_goto (tgt := 541) hx hb dL_law_532 (by decide) ?_
                refine W.widen (k := c1 + 0) (n := s1 + 0) (by omega) (by omega) ?_
                exact B541 _ _ _ _ _ _ _ _ _ _ c1 s1 hcb hsb k268 hk268 hf H locs hP hD hS ls (lv_sub hl [3, 4, 5, 6, 7, 8, 9, 10] rfl)
            · have hf := if_f c502 hf
              refine lv_aload_n hx hb dL_law_505 rfl (lv_at hl 4 rfl) ?_
              refine lv_aload_n hx hb dL_law_506 rfl (lv_at hl 5 rfl) ?_
              refine lv_aload hx hb dL_law_507 (lv_at hl 7 rfl) ?_
              refine lv_aload hx hb dL_law_509 (lv_at hl 9 rfl) ?_
              refine lv_iload hx hb dL_law_511 (lv_at hl 1 rfl) ?_
              refine lv_iload hx hb dL_law_513 (lv_at hl 0 rfl) ?_
              obtain ⟨q515, h515, hf⟩ := bd_t hf
              refine cl_i (va_runS (As := [.ref (A 0), .ref (A 53), .ref (A 55), .ref (A 57), .int q312, .int q326]) (rest := []) S (mL_isSent l hfl D cI cZ A cs cw ct cu cl cb cp cg q312 q326 H.size q515 h515) (va_cwS 6 hts gL_law_L_isSent rfl rfl rfl (by decide +kernel) ⟨Nat.le_of_ble_eq_true rfl, Nat.le_of_ble_eq_true rfl⟩) (xP_S (Cut.self _ []) hP hD hS hA hK hG hX hZ) rfl rfl hl.1 rfl (lv_room (Nat.le_of_ble_eq_true rfl)) dL_law_515 ⟨by show _ ≤ 788577; omega, by show _ ≤ 6735966; omega⟩) (Cut.self _ _) hP hD hS hA (fun H locs hP hD hS => ?_)
              refine lv_istore (lv' := [(7, .int q515.1), (11, .int q326), (10, .int q312), (9, .int y0), (0, .ref b), (1, .ref (A 0)), (2, .ref (A 53)), (3, .ref (A 54)), (4, .ref (A 55)), (5, .ref (A 56)), (6, .ref (A 57)), (8, .int x8)]) hx hb dL_law_518 hl (by decide) rfl (fun ls hl => ?_)
              refine lv_goto (tgt := 572) hx hb dL_law_520 (by decide) ?_
              refine W.widen (k := c1 + 2) (n := s1 + 12) (by omega) (by omega) ?_
              exact B572 _ _ _ _ _ _ _ _ _ _ c1 s1 hcb hsb k268 hk268 hf H locs hP hD hS ls (lv_sub hl [4, 5, 6, 7, 8, 9, 10, 0, 11] rfl)
          · have hf := if_t c457 hf
            refine lv_iconst (v := 1) hx hb dL_law_460 (by decide) ?_
            refine lv_iload hx hb dL_law_461 (lv_at hl 1 rfl) ?_
            refine lv_bipush (v := 100) hx hb dL_law_463 (by decide) ?_
            refine lv_irem hx hb dL_law_465 (by decide) ?_
            refine lv_iadd hx hb dL_law_466 ?_
            refine lv_istore (lv' := [(12, .int (1 + (q312 - q312 / 100 * 100))), (11, .int q326), (10, .int q312), (9, .int y0), (0, .ref b), (1, .ref (A 0)), (2, .ref (A 53)), (3, .ref (A 54)), (4, .ref (A 55)), (5, .ref (A 56)), (6, .ref (A 57)), (8, .int x8)]) hx hb dL_law_467 hl (by decide) rfl (fun ls hl => ?_)
            refine lv_aload_n hx hb dL_law_469 rfl (lv_at hl 5 rfl) ?_
            refine lv_iload hx hb dL_law_470 (lv_at hl 0 rfl) ?_
            obtain ⟨q472, h472, hf⟩ := bn_t hf
            refine cl_i (va_runV (As := [.int (1 + (q312 - q312 / 100 * 100))]) (rest := []) S (mX5_limit l D cI cZ (aLW_X5_0_1_2_3_4_5_6 A) cs cw ct cu cl cb cp (1 + (q312 - q312 / 100 * 100)) H.size q472 h472) (cwV 1 hts gL_law_X5_limit rfl rfl rfl (by decide +kernel) ⟨Nat.le_of_ble_eq_true rfl, Nat.le_of_ble_eq_true rfl⟩) (mP_V (ci := 5) (cutLW_X5_0_1_2_3_4_5_6 _ _ _ _ _ _ _ _ _ _ _ st0 st0 st0 st0 st0 st0 st0) hP hD hK hG rfl (gX5_0 _ _ _ _ _ _ _ _ _ _)) rfl rfl hl.1 rfl (lv_room (Nat.le_of_ble_eq_true rfl)) dL_law_472 ⟨by show _ ≤ 788577; omega, by show _ ≤ 6735966; omega⟩) (cutLW_X5_0_1_2_3_4_5_6 _ _ _ _ _ _ _ _ _ _ _ _ _ _ _ _ _ _) hP hD hS hA (fun H locs hP hD hS => ?_)
            refine lv_aload hx hb dL_law_475 (lv_at hl 10 rfl) ?_
            refine lv_iconst (v := 5) hx hb dL_law_477 (by decide) ?_
            obtain ⟨c478, hf⟩ := ck_t hf
            refine va_iald (f := cg 4) hx hb hK hP 57 0 (gLW_57 _ _ _ _ _ _ _ _ _ _ _) rfl (inb_in c478) dL_law_478 ?_
            refine lv_icmp_ne (tgt := 486) hx hb dL_law_479 (by decide) (fun c479 => ?_) (fun c479 => ?_)
            · have hf := if_f c479 hf
              refine lv_iconst (v := 0) hx hb dL_law_486 (by decide) ?_
              refine W.widen (k := c1 + 0) (n := s1 + 0) (by omega) (by omega) ?_
              exact B487 _ _ _ _ _ _ _ _ _ _ _ c1 s1 hcb hsb k268 hk268 hf H locs hP hD hS ls (lv_sub hl [4, 5, 6, 7, 8, 9, 10, 11, 0] rfl)
            · have hf := if_t c479 hf
              refine lv_iconst (v := 1) hx hb dL_law_482 (by decide) ?_
              refine lv_goto (tgt := 487) hx hb dL_law_483 (by decide) ?_
              refine W.widen (k := c1 + 0) (n := s1 + 0) (by omega) (by omega) ?_
              exact B487 _ _ _ _ _ _ _ _ _ _ _ c1 s1 hcb hsb k268 hk268 hf H locs hP hD hS ls (lv_sub hl [4, 5, 6, 7, 8, 9, 10, 11, 0] rfl)
        · have hf := if_f c392 hf
          refine lv_iload hx hb dL_law_395 (lv_at hl 2 rfl) ?_
          refine lv_bipush (v := 7) hx hb dL_law_397 (by decide) ?_
          refine lv_isub hx hb dL_law_399 ?_
          refine lv_istore (lv' := [(12, .int (y0 - 7)), (11, .int q326), (10, .int q312), (9, .int y0), (0, .ref b), (1, .ref (A 0)), (2, .ref (A 53)), (3, .ref (A 54)), (4, .ref (A 55)), (5, .ref (A 56)), (6, .ref (A 57)), (8, .int x8)]) hx hb dL_law_400 hl (by decide) rfl (fun ls hl => ?_)
          refine lv_aload_n hx hb dL_law_402 rfl (lv_at hl 5 rfl) ?_
          refine lv_aload_n hx hb dL_law_403 rfl (lv_at hl 6 rfl) ?_
          refine lv_aload_n hx hb dL_law_404 rfl (lv_at hl 7 rfl) ?_
          refine lv_aload hx hb dL_law_405 (lv_at hl 8 rfl) ?_
          refine lv_aload hx hb dL_law_407 (lv_at hl 9 rfl) ?_
          refine lv_aload hx hb dL_law_409 (lv_at hl 10 rfl) ?_
          refine lv_iload hx hb dL_law_411 (lv_at hl 0 rfl) ?_
          refine lv_bipush (v := 7) hx hb dL_law_413 (by decide) ?_
          refine lv_icmp_le (tgt := 422) hx hb dL_law_415 (by decide) (fun c415 => ?_) (fun c415 => ?_)
          · have hf := if_t c415 hf
            refine lv_iload hx hb dL_law_422 (lv_at hl 0 rfl) ?_
            refine lv_iconst (v := 5) hx hb dL_law_424 (by decide) ?_
            refine lv_icmp_ne (tgt := 439) hx hb dL_law_425 (by decide) (fun c425 => ?_) (fun c425 => ?_)
            · have hf := if_f c425 hf
              refine W.widen (k := c1 + 0) (n := s1 + 0) (by omega) (by omega) ?_
              exact B439 _ _ _ _ _ _ _ _ _ _ _ _ c1 s1 hcb hsb k268 hk268 hf H locs hP hD hS ls (lv_sub hl [4, 5, 6, 7, 8, 9, 10, 11, 2, 1, 0] rfl)
            · have hf := if_t c425 hf
              refine lv_iload hx hb dL_law_428 (lv_at hl 1 rfl) ?_
              refine lv_iconst (v := 3) hx hb dL_law_430 (by decide) ?_
              refine lv_irem hx hb dL_law_431 (by decide) ?_
              refine lv_if_le (tgt := 439) hx hb dL_law_432 (by decide) (fun c432 => ?_) (fun c432 => ?_)
              · have hf := if_t c432 hf
                refine W.widen (k := c1 + 0) (n := s1 + 0) (by omega) (by omega) ?_
                exact B439 _ _ _ _ _ _ _ _ _ _ _ _ c1 s1 hcb hsb k268 hk268 hf H locs hP hD hS ls (lv_sub hl [4, 5, 6, 7, 8, 9, 10, 11, 2, 1, 0] rfl)
              · have hf := if_f c432 hf
                refine lv_iconst (v := 4) hx hb dL_law_435 (by decide) ?_
                refine lv_goto (tgt := 441) hx hb dL_law_436 (by decide) ?_
                refine W.widen (k := c1 + 0) (n := s1 + 0) (by omega) (by omega) ?_
                exact B441 _ _ _ _ _ _ _ _ _ _ _ _ c1 s1 hcb hsb k268 hk268 hf H locs hP hD hS ls (lv_sub hl [4, 5, 6, 7, 8, 9, 10, 11, 2, 1] rfl)
          · have hf := if_f c415 hf
            refine lv_iconst (v := 3) hx hb dL_law_418 (by decide) ?_
            refine lv_goto (tgt := 441) hx hb dL_law_419 (by decide) ?_
            refine W.widen (k := c1 + 0) (n := s1 + 0) (by omega) (by omega) ?_
            exact B441 _ _ _ _ _ _ _ _ _ _ _ _ c1 s1 hcb hsb k268 hk268 hf H locs hP hD hS ls (lv_sub hl [4, 5, 6, 7, 8, 9, 10, 11, 2, 1] rfl)
      · have hf := if_f c363 hf
        refine lv_aload_n hx hb dL_law_366 rfl (lv_at hl 4 rfl) ?_
        refine lv_aload_n hx hb dL_law_367 rfl (lv_at hl 5 rfl) ?_
        refine lv_aload_n hx hb dL_law_368 rfl (lv_at hl 6 rfl) ?_
        refine lv_aload hx hb dL_law_369 (lv_at hl 7 rfl) ?_
        refine lv_aload hx hb dL_law_371 (lv_at hl 8 rfl) ?_
        refine lv_aload hx hb dL_law_373 (lv_at hl 9 rfl) ?_
        refine lv_iconst (v := 1) hx hb dL_law_375 (by decide) ?_
        refine lv_iload hx hb dL_law_376 (lv_at hl 1 rfl) ?_
        refine lv_iload hx hb dL_law_378 (lv_at hl 0 rfl) ?_
        obtain ⟨q380, h380, hf⟩ := bd_t hf
        refine cl_i (va_runS (As := [.ref (A 0), .ref (A 53), .ref (A 54), .ref (A 55), .ref (A 56), .ref (A 57), .int 1, .int q312, .int q326]) (rest := []) S (mL_isPort l hfl D cI cZ A cs cw ct cu cl cb cp cg 1 q312 q326 H.size q380 h380) (va_cwS 9 hts gL_law_L_isPort rfl rfl rfl (by decide +kernel) ⟨Nat.le_of_ble_eq_true rfl, Nat.le_of_ble_eq_true rfl⟩) (xP_S (Cut.self _ []) hP hD hS hA hK hG hX hZ) rfl rfl hl.1 rfl (lv_room (Nat.le_of_ble_eq_true rfl)) dL_law_380 ⟨by show _ ≤ 788577; omega, by show _ ≤ 6735966; omega⟩) (Cut.self _ _) hP hD hS hA (fun H locs hP hD hS => ?_)
        refine lv_istore (lv' := [(7, .int q380.1), (11, .int q326), (10, .int q312), (9, .int y0), (0, .ref b), (1, .ref (A 0)), (2, .ref (A 53)), (3, .ref (A 54)), (4, .ref (A 55)), (5, .ref (A 56)), (6, .ref (A 57)), (8, .int x8)]) hx hb dL_law_383 hl (by decide) rfl (fun ls hl => ?_)
        refine lv_goto (tgt := 572) hx hb dL_law_385 (by decide) ?_
        refine W.widen (k := c1 + 2) (n := s1 + 12) (by omega) (by omega) ?_
        exact B572 _ _ _ _ _ _ _ _ _ _ c1 s1 hcb hsb k268 hk268 hf H locs hP hD hS ls (lv_sub hl [4, 5, 6, 7, 8, 9, 10, 0, 11] rfl)
    · have hf := if_f c334 hf
      refine lv_aload_n hx hb dL_law_337 rfl (lv_at hl 4 rfl) ?_
      refine lv_aload_n hx hb dL_law_338 rfl (lv_at hl 5 rfl) ?_
      refine lv_aload_n hx hb dL_law_339 rfl (lv_at hl 6 rfl) ?_
      refine lv_aload hx hb dL_law_340 (lv_at hl 7 rfl) ?_
      refine lv_aload hx hb dL_law_342 (lv_at hl 8 rfl) ?_
      refine lv_aload hx hb dL_law_344 (lv_at hl 9 rfl) ?_
      refine lv_iconst (v := 0) hx hb dL_law_346 (by decide) ?_
      refine lv_iload hx hb dL_law_347 (lv_at hl 1 rfl) ?_
      refine lv_iload hx hb dL_law_349 (lv_at hl 0 rfl) ?_
      obtain ⟨q351, h351, hf⟩ := bd_t hf
      refine cl_i (va_runS (As := [.ref (A 0), .ref (A 53), .ref (A 54), .ref (A 55), .ref (A 56), .ref (A 57), .int 0, .int q312, .int q326]) (rest := []) S (mL_isPort l hfl D cI cZ A cs cw ct cu cl cb cp cg 0 q312 q326 H.size q351 h351) (va_cwS 9 hts gL_law_L_isPort rfl rfl rfl (by decide +kernel) ⟨Nat.le_of_ble_eq_true rfl, Nat.le_of_ble_eq_true rfl⟩) (xP_S (Cut.self _ []) hP hD hS hA hK hG hX hZ) rfl rfl hl.1 rfl (lv_room (Nat.le_of_ble_eq_true rfl)) dL_law_351 ⟨by show _ ≤ 788577; omega, by show _ ≤ 6735966; omega⟩) (Cut.self _ _) hP hD hS hA (fun H locs hP hD hS => ?_)
      refine lv_istore (lv' := [(7, .int q351.1), (11, .int q326), (10, .int q312), (9, .int y0), (0, .ref b), (1, .ref (A 0)), (2, .ref (A 53)), (3, .ref (A 54)), (4, .ref (A 55)), (5, .ref (A 56)), (6, .ref (A 57)), (8, .int x8)]) hx hb dL_law_354 hl (by decide) rfl (fun ls hl => ?_)
      refine lv_goto (tgt := 572) hx hb dL_law_356 (by decide) ?_
      refine W.widen (k := c1 + 2) (n := s1 + 12) (by omega) (by omega) ?_
      exact B572 _ _ _ _ _ _ _ _ _ _ c1 s1 hcb hsb k268 hk268 hf H locs hP hD hS ls (lv_sub hl [4, 5, 6, 7, 8, 9, 10, 0, 11] rfl)
  have B268 : ∀ (cs : St) (cw : St) (ct : St) (cu : St) (cl : St) (cb : St) (cp : St) (cg : St) (x7 : Int32) (x8 : Int32), fL_law_L268 L xs cs cw ct cu cl cb cp cg x7 x8 = some 1 → Bk p l e room_1 s m #[Value.ref b] below meth c (lw_Z below #[Value.ref b] s) (fun q : Nat => s.heap.size ≤ q) D 13 66 2954 (wLW cI cZ A cs cw ct cu cl cb cp cg) [(0, .ref b), (1, .ref (A 0)), (2, .ref (A 53)), (3, .ref (A 54)), (4, .ref (A 55)), (5, .ref (A 56)), (6, .ref (A 57)), (7, .int x7), (8, .int x8)] 268 [] := by
    intro cs cw ct cu cl cb cp cg x7 x8 hf
    refine loop_indF (step := (fun k a => fL_law_S268 L xs k (a.1) (a.2.1) (a.2.2.1) (a.2.2.2.1) (a.2.2.2.2.1) (a.2.2.2.2.2.1) (a.2.2.2.2.2.2.1) (a.2.2.2.2.2.2.2.1) (a.2.2.2.2.2.2.2.2.1) (a.2.2.2.2.2.2.2.2.2))) (res := 1) 66 (fun n a => ∀ c1 s1 : Nat, c1 = 66 + (66 - n) * 18 → s1 = 2954 + (66 - n) * 108 → Bk p l e room_1 s m #[Value.ref b] below meth c (lw_Z below #[Value.ref b] s) (fun q : Nat => s.heap.size ≤ q) D 13 c1 s1 (wLW cI cZ A (a.1) (a.2.1) (a.2.2.1) (a.2.2.2.1) (a.2.2.2.2.1) (a.2.2.2.2.2.1) (a.2.2.2.2.2.2.1) (a.2.2.2.2.2.2.2.1)) [(0, .ref b), (1, .ref (A 0)), (2, .ref (A 53)), (3, .ref (A 54)), (4, .ref (A 55)), (5, .ref (A 56)), (6, .ref (A 57)), (7, .int (a.2.2.2.2.2.2.2.2.1)), (8, .int (a.2.2.2.2.2.2.2.2.2))] 268 []) ?_ 66 (Nat.le_refl _) _ hf 66 2954 (by decide) (by decide)
    clear hf
    intro n9 hn9 k268 hk268 a hf
    obtain ⟨cs_, cw_, ct_, cu_, cl_, cb_, cp_, cg_, x7_, x8_⟩ := a
    clear cs cw ct cu cl cb cp cg x7 x8
    obtain ⟨cs, e_⟩ : ∃ z, z = cs_ := ⟨_, rfl⟩
    subst e_
    obtain ⟨cw, e_⟩ : ∃ z, z = cw_ := ⟨_, rfl⟩
    subst e_
    obtain ⟨ct, e_⟩ : ∃ z, z = ct_ := ⟨_, rfl⟩
    subst e_
    obtain ⟨cu, e_⟩ : ∃ z, z = cu_ := ⟨_, rfl⟩
    subst e_
    obtain ⟨cl, e_⟩ : ∃ z, z = cl_ := ⟨_, rfl⟩
    subst e_
    obtain ⟨cb, e_⟩ : ∃ z, z = cb_ := ⟨_, rfl⟩
    subst e_
    obtain ⟨cp, e_⟩ : ∃ z, z = cp_ := ⟨_, rfl⟩
    subst e_
    obtain ⟨cg, e_⟩ : ∃ z, z = cg_ := ⟨_, rfl⟩
    subst e_
    obtain ⟨x7, e_⟩ : ∃ z, z = x7_ := ⟨_, rfl⟩
    subst e_
    obtain ⟨x8, e_⟩ : ∃ z, z = x8_ := ⟨_, rfl⟩
    subst e_
    have hf : fL_law_S268 L xs k268 cs cw ct cu cl cb cp cg x7 x8 = some 1 := hf
    intro c1 s1 ec1 es1
    have hcb : c1 + 18 ≤ 1254 := by omega
    have hsb : s1 + 108 ≤ 10082 := by omega
    have hk268 : ∀ a268, k268 a268 = some 1 → Bk p l e room_1 s m #[Value.ref b] below meth c (lw_Z below #[Value.ref b] s) (fun q : Nat => s.heap.size ≤ q) D 13 (c1 + 18) (s1 + 108) (wLW cI cZ A (a268.1) (a268.2.1) (a268.2.2.1) (a268.2.2.2.1) (a268.2.2.2.2.1) (a268.2.2.2.2.2.1) (a268.2.2.2.2.2.2.1) (a268.2.2.2.2.2.2.2.1)) [(0, .ref b), (1, .ref (A 0)), (2, .ref (A 53)), (3, .ref (A 54)), (4, .ref (A 55)), (5, .ref (A 56)), (6, .ref (A 57)), (7, .int (a268.2.2.2.2.2.2.2.2.1)), (8, .int (a268.2.2.2.2.2.2.2.2.2))] 268 [] := fun a h9 => hk268 a h9 (c1 + 18) (s1 + 108) (by omega) (by omega)
    show Bk p l e room_1 s m #[Value.ref b] below meth c (lw_Z below #[Value.ref b] s) (fun q : Nat => s.heap.size ≤ q) D 13 c1 s1 (wLW cI cZ A cs cw ct cu cl cb cp cg) [(0, .ref b), (1, .ref (A 0)), (2, .ref (A 53)), (3, .ref (A 54)), (4, .ref (A 55)), (5, .ref (A 56)), (6, .ref (A 57)), (7, .int x7), (8, .int x8)] 268 []
    unfold fL_law_S268 at hf
    intro H locs hP hD hS ls hl
    refine lv_iload hx hb dL_law_268 (lv_at hl 8 rfl) ?_
    refine lv_bipush (v := 64) hx hb dL_law_270 (by decide) ?_
    refine lv_icmp_ge (tgt := 630) hx hb dL_law_272 (by decide) (fun c272 => ?_) (fun c272 => ?_)
    · have hf := if_t c272 hf
      refine lv_iload hx hb dL_law_630 (lv_at hl 7 rfl) ?_
      exact hR _ ls H locs _ _ _ (Option.some.inj hf) (by omega) (by omega) dL_law_632 hS
    · have hf := if_f c272 hf
      refine lv_iload hx hb dL_law_275 (lv_at hl 7 rfl) ?_
      refine lv_if_eq (tgt := 630) hx hb dL_law_277 (by decide) (fun c277 => ?_) (fun c277 => ?_)
      · have hf := if_t c277 hf
        refine lv_iload hx hb dL_law_630 (lv_at hl 7 rfl) ?_
        exact hR _ ls H locs _ _ _ (Option.some.inj hf) (by omega) (by omega) dL_law_632 hS
      · have hf := if_f c277 hf
        refine lv_iload hx hb dL_law_280 (lv_at hl 8 rfl) ?_
        refine lv_bipush (v := 8) hx hb dL_law_282 (by decide) ?_
        refine lv_icmp_ge (tgt := 291) hx hb dL_law_284 (by decide) (fun c284 => ?_) (fun c284 => ?_)
        · have hf := if_t c284 hf
          refine lv_aload_n hx hb dL_law_291 rfl (lv_at hl 0 rfl) ?_
          refine lv_iconst (v := 3) hx hb dL_law_292 (by decide) ?_
          refine lv_iload hx hb dL_law_293 (lv_at hl 8 rfl) ?_
          refine lv_imul hx hb dL_law_295 ?_
          refine lv_bipush (v := 30) hx hb dL_law_296 (by decide) ?_
          obtain ⟨q298, h298, hf⟩ := bd_t hf
          refine cl_i (va_runS (As := [.ref b, .int (3 * x8), .int 30]) (rest := []) S (mL_part l D b L xs (3 * x8) 30 H.size q298 h298) (va_cwS 3 hts gL_law_L_part rfl rfl rfl (by decide +kernel) ⟨Nat.le_of_ble_eq_true rfl, Nat.le_of_ble_eq_true rfl⟩) (pP_S hXs hbl hbA hS (3 * x8) 30) rfl rfl hl.1 rfl (lv_room (Nat.le_of_ble_eq_true rfl)) dL_law_298 ⟨by show _ ≤ 788577; omega, by show _ ≤ 6735966; omega⟩) (Cut.nil _) hP hD hS hA (fun H locs hP hD hS => ?_)
          refine W.widen (k := c1 + 0) (n := s1 + 0) (by omega) (by omega) ?_
          exact B301 _ _ _ _ _ _ _ _ _ _ c1 s1 hcb hsb k268 hk268 hf H locs hP hD hS ls (lv_sub hl [0, 1, 2, 3, 4, 5, 6, 8] rfl)
        · have hf := if_f c284 hf
          refine lv_iconst (v := 0) hx hb dL_law_287 (by decide) ?_
          refine lv_goto (tgt := 301) hx hb dL_law_288 (by decide) ?_
          refine W.widen (k := c1 + 0) (n := s1 + 0) (by omega) (by omega) ?_
          exact B301 _ _ _ _ _ _ _ _ _ _ c1 s1 hcb hsb k268 hk268 hf H locs hP hD hS ls (lv_sub hl [0, 1, 2, 3, 4, 5, 6, 8] rfl)
  have B263 : ∀ (cs : St) (cw : St) (ct : St) (cu : St) (cl : St) (cb : St) (cp : St) (cg : St) (y0 : Int32), fL_law_J263 L xs cs cw ct cu cl cb cp cg y0 = some 1 → Bk p l e room_1 s m #[Value.ref b] below meth c (lw_Z below #[Value.ref b] s) (fun q : Nat => s.heap.size ≤ q) D 13 66 2954 (wLW cI cZ A cs cw ct cu cl cb cp cg) [(0, .ref b), (1, .ref (A 0)), (2, .ref (A 53)), (3, .ref (A 54)), (4, .ref (A 55)), (5, .ref (A 56)), (6, .ref (A 57))] 263 [.int y0] := by
    intro cs cw ct cu cl cb cp cg y0 hf
    unfold fL_law_J263 at hf
    intro H locs hP hD hS ls hl
    refine lv_istore (lv' := [(7, .int y0), (0, .ref b), (1, .ref (A 0)), (2, .ref (A 53)), (3, .ref (A 54)), (4, .ref (A 55)), (5, .ref (A 56)), (6, .ref (A 57))]) hx hb dL_law_263 hl (by decide) rfl (fun ls hl => ?_)
    refine lv_iconst (v := 0) hx hb dL_law_265 (by decide) ?_
    refine lv_istore (lv' := [(8, .int 0), (7, .int y0), (0, .ref b), (1, .ref (A 0)), (2, .ref (A 53)), (3, .ref (A 54)), (4, .ref (A 55)), (5, .ref (A 56)), (6, .ref (A 57))]) hx hb dL_law_266 hl (by decide) rfl (fun ls hl => ?_)
    refine W.widen (k := 66) (n := 2954) (by omega) (by omega) ?_
    exact B268 _ _ _ _ _ _ _ _ _ _ hf H locs hP hD hS ls (lv_sub hl [2, 3, 4, 5, 6, 7, 8, 1, 0] rfl)
  have B262 : ∀ (cs : St) (cw : St) (ct : St) (cu : St) (cl : St) (cb : St) (cp : St) (cg : St), fL_law_J262 L xs cs cw ct cu cl cb cp cg = some 1 → Bk p l e room_1 s m #[Value.ref b] below meth c (lw_Z below #[Value.ref b] s) (fun q : Nat => s.heap.size ≤ q) D 13 66 2954 (wLW cI cZ A cs cw ct cu cl cb cp cg) [(0, .ref b), (1, .ref (A 0)), (2, .ref (A 53)), (3, .ref (A 54)), (4, .ref (A 55)), (5, .ref (A 56)), (6, .ref (A 57))] 262 [] := by
    intro cs cw ct cu cl cb cp cg hf
    unfold fL_law_J262 at hf
    intro H locs hP hD hS ls hl
    refine lv_iconst (v := 0) hx hb dL_law_262 (by decide) ?_
    refine W.widen (k := 66) (n := 2954) (by omega) (by omega) ?_
    exact B263 _ _ _ _ _ _ _ _ _ hf H locs hP hD hS ls (lv_sub hl [0, 1, 2, 3, 4, 5, 6] rfl)
  have B102 : ∀ (cs : St) (cw : St) (ct : St) (cu : St) (cl : St) (cb : St) (cp : St) (cg : St), fL_law_J102 L xs cs cw ct cu cl cb cp cg = some 1 → Bk p l e room_1 s m #[Value.ref b] below meth c (lw_Z below #[Value.ref b] s) (fun q : Nat => s.heap.size ≤ q) D 13 58 2906 (wLW cI cZ A cs cw ct cu cl cb cp cg) [(0, .ref b), (1, .ref (A 0)), (2, .ref (A 53)), (3, .ref (A 54)), (4, .ref (A 55)), (5, .ref (A 56)), (6, .ref (A 57))] 102 [] := by
    intro cs cw ct cu cl cb cp cg hf
    unfold fL_law_J102 at hf
    intro H locs hP hD hS ls hl
    refine lv_aload hx hb dL_law_102 (lv_at hl 6 rfl) ?_
    refine lv_iconst (v := 3) hx hb dL_law_104 (by decide) ?_
    refine lv_iconst (v := 1) hx hb dL_law_105 (by decide) ?_
    obtain ⟨c106, hf⟩ := ck_t hf
    refine st_i hx hb hK hP hD hS 57 0 (sLW_57 _ _ _ _ _ _ _ _ _ _ _ _ _) (gLW_57 _ _ _ _ _ _ _ _ _ _ _) rfl c106 dL_law_106 (fun H locs hP hD hS => ?_)
    refine lv_aload hx hb dL_law_107 (lv_at hl 6 rfl) ?_
    refine lv_iconst (v := 5) hx hb dL_law_109 (by decide) ?_
    refine lv_bipush (v := 20) hx hb dL_law_110 (by decide) ?_
    obtain ⟨c112, hf⟩ := ck_t hf
    refine st_i hx hb hK hP hD hS 57 0 (sLW_57 _ _ _ _ _ _ _ _ _ _ _ _ _) (gLW_57 _ _ _ _ _ _ _ _ _ _ _) rfl c112 dL_law_112 (fun H locs hP hD hS => ?_)
    refine lv_aload_n hx hb dL_law_113 rfl (lv_at hl 1 rfl) ?_
    obtain ⟨q114, h114, hf⟩ := bd_t hf
    refine cl_i (va_runV (As := []) (rest := []) S (mX5_isAtRest l D cI cZ (aLW_X5_0_1_2_3_4_5_6 A) cs cw ct cu cl cb cp H.size q114 h114) (cwV 0 hts gL_law_X5_isAtRest rfl rfl rfl (by decide +kernel) ⟨Nat.le_of_ble_eq_true rfl, Nat.le_of_ble_eq_true rfl⟩) (mP_V (ci := 5) (cutLW_X5_0_1_2_3_4_5_6 _ _ _ _ _ _ _ _ _ _ _ st0 st0 st0 st0 st0 st0 st0) hP hD hK hG rfl (gX5_0 _ _ _ _ _ _ _ _ _ _)) rfl rfl hl.1 rfl (lv_room (Nat.le_of_ble_eq_true rfl)) dL_law_114 ⟨by show _ ≤ 788577; omega, by show _ ≤ 6735966; omega⟩) (cutLW_X5_0_1_2_3_4_5_6 _ _ _ _ _ _ _ _ _ _ _ _ _ _ _ _ _ _) hP hD hS hA (fun H locs hP hD hS => ?_)
    refine lv_if_eq (tgt := 262) hx hb dL_law_117 (by decide) (fun c117 => ?_) (fun c117 => ?_)
    · have hf := if_t c117 hf
      refine W.widen (k := 66) (n := 2954) (by omega) (by omega) ?_
      exact B262 _ _ _ _ _ _ _ _ hf H locs hP hD hS ls (lv_sub hl [0, 1, 2, 3, 4, 5, 6] rfl)
    · have hf := if_f c117 hf
      refine lv_aload_n hx hb dL_law_120 rfl (lv_at hl 1 rfl) ?_
      refine lv_bipush (v := 11) hx hb dL_law_121 (by decide) ?_
      refine lv_bipush (v := 6) hx hb dL_law_123 (by decide) ?_
      refine lv_iconst (v := 0) hx hb dL_law_125 (by decide) ?_
      refine lv_iconst (v := 0) hx hb dL_law_126 (by decide) ?_
      refine lv_iconst (v := 0) hx hb dL_law_127 (by decide) ?_
      refine lv_iconst (v := 0) hx hb dL_law_128 (by decide) ?_
      obtain ⟨q129, h129, hf⟩ := bd_t hf
      refine cl_i (vx_runSW (As := [.ref (A 0), .int 11, .int 6, .int 0, .int 0, .int 0, .int 0]) (rest := []) S (mL_does l hfl D cI cZ A cs cw ct (q114.2) cl cb cp (aS (aS cg 4 3 1) 4 5 20) 11 6 0 0 0 0 H.size q129 h129) (vx_cwSW 7 hts gL_law_L_does rfl rfl rfl (by decide +kernel) ⟨Nat.le_of_ble_eq_true rfl, Nat.le_of_ble_eq_true rfl⟩) (xP_S (Cut.self _ []) hP hD hS hA hK hG hX hZ) rfl rfl hl.1 rfl (lv_room (Nat.le_of_ble_eq_true rfl)) dL_law_129 ⟨by show _ ≤ 788577; omega, by show _ ≤ 6735966; omega⟩) (Cut.self _ _) hP hD hS hA (fun H locs hP hD hS => ?_)
      refine lv_sipush (v := (-3000)) hx hb dL_law_132 (by decide) ?_
      refine lv_icmp_ne (tgt := 262) hx hb dL_law_135 (by decide) (fun c135 => ?_) (fun c135 => ?_)
      · have hf := if_f c135 hf
        refine W.widen (k := 66) (n := 2954) (by omega) (by omega) ?_
        exact B262 _ _ _ _ _ _ _ _ hf H locs hP hD hS ls (lv_sub hl [0, 1, 2, 3, 4, 5, 6] rfl)
      · have hf := if_t c135 hf
        refine lv_aload_n hx hb dL_law_138 rfl (lv_at hl 1 rfl) ?_
        refine lv_bipush (v := 11) hx hb dL_law_139 (by decide) ?_
        refine lv_iconst (v := 0) hx hb dL_law_141 (by decide) ?_
        refine lv_iconst (v := 5) hx hb dL_law_142 (by decide) ?_
        refine lv_iconst (v := 0) hx hb dL_law_143 (by decide) ?_
        refine lv_iconst (v := 0) hx hb dL_law_144 (by decide) ?_
        refine lv_iconst (v := 0) hx hb dL_law_145 (by decide) ?_
        obtain ⟨q146, h146, hf⟩ := bd_t hf
        refine cl_i (vx_runSW (As := [.ref (A 0), .int 11, .int 0, .int 5, .int 0, .int 0, .int 0]) (rest := []) S (mL_does l hfl D cI cZ A (q129.2.1) (q129.2.2.1) (q129.2.2.2.1) (q114.2) (q129.2.2.2.2.1) (q129.2.2.2.2.2.1) (q129.2.2.2.2.2.2) (aS (aS cg 4 3 1) 4 5 20) 11 0 5 0 0 0 H.size q146 h146) (vx_cwSW 7 hts gL_law_L_does rfl rfl rfl (by decide +kernel) ⟨Nat.le_of_ble_eq_true rfl, Nat.le_of_ble_eq_true rfl⟩) (xP_S (Cut.self _ []) hP hD hS hA hK hG hX hZ) rfl rfl hl.1 rfl (lv_room (Nat.le_of_ble_eq_true rfl)) dL_law_146 ⟨by show _ ≤ 788577; omega, by show _ ≤ 6735966; omega⟩) (Cut.self _ _) hP hD hS hA (fun H locs hP hD hS => ?_)
        refine lv_sipush (v := (-2000)) hx hb dL_law_149 (by decide) ?_
        refine lv_icmp_ne (tgt := 262) hx hb dL_law_152 (by decide) (fun c152 => ?_) (fun c152 => ?_)
        · have hf := if_f c152 hf
          refine W.widen (k := 66) (n := 2954) (by omega) (by omega) ?_
          exact B262 _ _ _ _ _ _ _ _ hf H locs hP hD hS ls (lv_sub hl [0, 1, 2, 3, 4, 5, 6] rfl)
        · have hf := if_t c152 hf
          refine lv_aload_n hx hb dL_law_155 rfl (lv_at hl 1 rfl) ?_
          refine lv_bipush (v := 12) hx hb dL_law_156 (by decide) ?_
          refine lv_iconst (v := 0) hx hb dL_law_158 (by decide) ?_
          refine lv_iconst (v := 5) hx hb dL_law_159 (by decide) ?_
          refine lv_iconst (v := 0) hx hb dL_law_160 (by decide) ?_
          refine lv_iconst (v := 0) hx hb dL_law_161 (by decide) ?_
          refine lv_iconst (v := 0) hx hb dL_law_162 (by decide) ?_
          obtain ⟨q163, h163, hf⟩ := bd_t hf
          refine cl_i (vx_runSW (As := [.ref (A 0), .int 12, .int 0, .int 5, .int 0, .int 0, .int 0]) (rest := []) S (mL_does l hfl D cI cZ A (q146.2.1) (q146.2.2.1) (q146.2.2.2.1) (q114.2) (q146.2.2.2.2.1) (q146.2.2.2.2.2.1) (q146.2.2.2.2.2.2) (aS (aS cg 4 3 1) 4 5 20) 12 0 5 0 0 0 H.size q163 h163) (vx_cwSW 7 hts gL_law_L_does rfl rfl rfl (by decide +kernel) ⟨Nat.le_of_ble_eq_true rfl, Nat.le_of_ble_eq_true rfl⟩) (xP_S (Cut.self _ []) hP hD hS hA hK hG hX hZ) rfl rfl hl.1 rfl (lv_room (Nat.le_of_ble_eq_true rfl)) dL_law_163 ⟨by show _ ≤ 788577; omega, by show _ ≤ 6735966; omega⟩) (Cut.self _ _) hP hD hS hA (fun H locs hP hD hS => ?_)
          refine lv_sipush (v := (-3000)) hx hb dL_law_166 (by decide) ?_
          refine lv_icmp_ne (tgt := 262) hx hb dL_law_169 (by decide) (fun c169 => ?_) (fun c169 => ?_)
          · have hf := if_f c169 hf
            refine W.widen (k := 66) (n := 2954) (by omega) (by omega) ?_
            exact B262 _ _ _ _ _ _ _ _ hf H locs hP hD hS ls (lv_sub hl [0, 1, 2, 3, 4, 5, 6] rfl)
          · have hf := if_t c169 hf
            refine lv_aload_n hx hb dL_law_172 rfl (lv_at hl 1 rfl) ?_
            refine lv_bipush (v := 12) hx hb dL_law_173 (by decide) ?_
            refine lv_iconst (v := 0) hx hb dL_law_175 (by decide) ?_
            refine lv_iconst (v := 0) hx hb dL_law_176 (by decide) ?_
            refine lv_iconst (v := 4) hx hb dL_law_177 (by decide) ?_
            refine lv_iconst (v := 0) hx hb dL_law_178 (by decide) ?_
            refine lv_iconst (v := 0) hx hb dL_law_179 (by decide) ?_
            obtain ⟨q180, h180, hf⟩ := bd_t hf
            refine cl_i (vx_runSW (As := [.ref (A 0), .int 12, .int 0, .int 0, .int 4, .int 0, .int 0]) (rest := []) S (mL_does l hfl D cI cZ A (q163.2.1) (q163.2.2.1) (q163.2.2.2.1) (q114.2) (q163.2.2.2.2.1) (q163.2.2.2.2.2.1) (q163.2.2.2.2.2.2) (aS (aS cg 4 3 1) 4 5 20) 12 0 0 4 0 0 H.size q180 h180) (vx_cwSW 7 hts gL_law_L_does rfl rfl rfl (by decide +kernel) ⟨Nat.le_of_ble_eq_true rfl, Nat.le_of_ble_eq_true rfl⟩) (xP_S (Cut.self _ []) hP hD hS hA hK hG hX hZ) rfl rfl hl.1 rfl (lv_room (Nat.le_of_ble_eq_true rfl)) dL_law_180 ⟨by show _ ≤ 788577; omega, by show _ ≤ 6735966; omega⟩) (Cut.self _ _) hP hD hS hA (fun H locs hP hD hS => ?_)
            refine lv_sipush (v := (-2000)) hx hb dL_law_183 (by decide) ?_
            refine lv_icmp_ne (tgt := 262) hx hb dL_law_186 (by decide) (fun c186 => ?_) (fun c186 => ?_)
            · have hf := if_f c186 hf
              refine W.widen (k := 66) (n := 2954) (by omega) (by omega) ?_
              exact B262 _ _ _ _ _ _ _ _ hf H locs hP hD hS ls (lv_sub hl [0, 1, 2, 3, 4, 5, 6] rfl)
            · have hf := if_t c186 hf
              refine lv_aload_n hx hb dL_law_189 rfl (lv_at hl 1 rfl) ?_
              refine lv_bipush (v := 13) hx hb dL_law_190 (by decide) ?_
              refine lv_iconst (v := 0) hx hb dL_law_192 (by decide) ?_
              refine lv_iconst (v := 4) hx hb dL_law_193 (by decide) ?_
              refine lv_iconst (v := 0) hx hb dL_law_194 (by decide) ?_
              refine lv_iconst (v := 0) hx hb dL_law_195 (by decide) ?_
              refine lv_iconst (v := 0) hx hb dL_law_196 (by decide) ?_
              obtain ⟨q197, h197, hf⟩ := bd_t hf
              refine cl_i (vx_runSW (As := [.ref (A 0), .int 13, .int 0, .int 4, .int 0, .int 0, .int 0]) (rest := []) S (mL_does l hfl D cI cZ A (q180.2.1) (q180.2.2.1) (q180.2.2.2.1) (q114.2) (q180.2.2.2.2.1) (q180.2.2.2.2.2.1) (q180.2.2.2.2.2.2) (aS (aS cg 4 3 1) 4 5 20) 13 0 4 0 0 0 H.size q197 h197) (vx_cwSW 7 hts gL_law_L_does rfl rfl rfl (by decide +kernel) ⟨Nat.le_of_ble_eq_true rfl, Nat.le_of_ble_eq_true rfl⟩) (xP_S (Cut.self _ []) hP hD hS hA hK hG hX hZ) rfl rfl hl.1 rfl (lv_room (Nat.le_of_ble_eq_true rfl)) dL_law_197 ⟨by show _ ≤ 788577; omega, by show _ ≤ 6735966; omega⟩) (Cut.self _ _) hP hD hS hA (fun H locs hP hD hS => ?_)
              refine lv_sipush (v := (-3000)) hx hb dL_law_200 (by decide) ?_
              refine lv_icmp_ne (tgt := 262) hx hb dL_law_203 (by decide) (fun c203 => ?_) (fun c203 => ?_)
              · have hf := if_f c203 hf
                refine W.widen (k := 66) (n := 2954) (by omega) (by omega) ?_
                exact B262 _ _ _ _ _ _ _ _ hf H locs hP hD hS ls (lv_sub hl [0, 1, 2, 3, 4, 5, 6] rfl)
              · have hf := if_t c203 hf
                refine lv_aload_n hx hb dL_law_206 rfl (lv_at hl 1 rfl) ?_
                refine lv_bipush (v := 14) hx hb dL_law_207 (by decide) ?_
                refine lv_bipush (v := 10) hx hb dL_law_209 (by decide) ?_
                refine lv_iconst (v := 0) hx hb dL_law_211 (by decide) ?_
                refine lv_iconst (v := 0) hx hb dL_law_212 (by decide) ?_
                refine lv_iconst (v := 0) hx hb dL_law_213 (by decide) ?_
                refine lv_iconst (v := 0) hx hb dL_law_214 (by decide) ?_
                obtain ⟨q215, h215, hf⟩ := bd_t hf
                refine cl_i (vx_runSW (As := [.ref (A 0), .int 14, .int 10, .int 0, .int 0, .int 0, .int 0]) (rest := []) S (mL_does l hfl D cI cZ A (q197.2.1) (q197.2.2.1) (q197.2.2.2.1) (q114.2) (q197.2.2.2.2.1) (q197.2.2.2.2.2.1) (q197.2.2.2.2.2.2) (aS (aS cg 4 3 1) 4 5 20) 14 10 0 0 0 0 H.size q215 h215) (vx_cwSW 7 hts gL_law_L_does rfl rfl rfl (by decide +kernel) ⟨Nat.le_of_ble_eq_true rfl, Nat.le_of_ble_eq_true rfl⟩) (xP_S (Cut.self _ []) hP hD hS hA hK hG hX hZ) rfl rfl hl.1 rfl (lv_room (Nat.le_of_ble_eq_true rfl)) dL_law_215 ⟨by show _ ≤ 788577; omega, by show _ ≤ 6735966; omega⟩) (Cut.self _ _) hP hD hS hA (fun H locs hP hD hS => ?_)
                refine lv_sipush (v := (-3000)) hx hb dL_law_218 (by decide) ?_
                refine lv_icmp_ne (tgt := 262) hx hb dL_law_221 (by decide) (fun c221 => ?_) (fun c221 => ?_)
                · have hf := if_f c221 hf
                  refine W.widen (k := 66) (n := 2954) (by omega) (by omega) ?_
                  exact B262 _ _ _ _ _ _ _ _ hf H locs hP hD hS ls (lv_sub hl [0, 1, 2, 3, 4, 5, 6] rfl)
                · have hf := if_t c221 hf
                  refine lv_aload_n hx hb dL_law_224 rfl (lv_at hl 1 rfl) ?_
                  refine lv_bipush (v := 8) hx hb dL_law_225 (by decide) ?_
                  refine lv_iconst (v := 0) hx hb dL_law_227 (by decide) ?_
                  refine lv_iconst (v := 0) hx hb dL_law_228 (by decide) ?_
                  refine lv_iconst (v := 0) hx hb dL_law_229 (by decide) ?_
                  refine lv_iconst (v := 0) hx hb dL_law_230 (by decide) ?_
                  refine lv_iconst (v := 0) hx hb dL_law_231 (by decide) ?_
                  obtain ⟨q232, h232, hf⟩ := bd_t hf
                  refine cl_i (vx_runSW (As := [.ref (A 0), .int 8, .int 0, .int 0, .int 0, .int 0, .int 0]) (rest := []) S (mL_does l hfl D cI cZ A (q215.2.1) (q215.2.2.1) (q215.2.2.2.1) (q114.2) (q215.2.2.2.2.1) (q215.2.2.2.2.2.1) (q215.2.2.2.2.2.2) (aS (aS cg 4 3 1) 4 5 20) 8 0 0 0 0 0 H.size q232 h232) (vx_cwSW 7 hts gL_law_L_does rfl rfl rfl (by decide +kernel) ⟨Nat.le_of_ble_eq_true rfl, Nat.le_of_ble_eq_true rfl⟩) (xP_S (Cut.self _ []) hP hD hS hA hK hG hX hZ) rfl rfl hl.1 rfl (lv_room (Nat.le_of_ble_eq_true rfl)) dL_law_232 ⟨by show _ ≤ 788577; omega, by show _ ≤ 6735966; omega⟩) (Cut.self _ _) hP hD hS hA (fun H locs hP hD hS => ?_)
                  refine lv_sipush (v := (-2000)) hx hb dL_law_235 (by decide) ?_
                  refine lv_icmp_ne (tgt := 262) hx hb dL_law_238 (by decide) (fun c238 => ?_) (fun c238 => ?_)
                  · have hf := if_f c238 hf
                    refine W.widen (k := 66) (n := 2954) (by omega) (by omega) ?_
                    exact B262 _ _ _ _ _ _ _ _ hf H locs hP hD hS ls (lv_sub hl [0, 1, 2, 3, 4, 5, 6] rfl)
                  · have hf := if_t c238 hf
                    refine lv_aload_n hx hb dL_law_241 rfl (lv_at hl 1 rfl) ?_
                    refine lv_bipush (v := 9) hx hb dL_law_242 (by decide) ?_
                    refine lv_iconst (v := 0) hx hb dL_law_244 (by decide) ?_
                    refine lv_iconst (v := 0) hx hb dL_law_245 (by decide) ?_
                    refine lv_iconst (v := 0) hx hb dL_law_246 (by decide) ?_
                    refine lv_iconst (v := 0) hx hb dL_law_247 (by decide) ?_
                    refine lv_iconst (v := 0) hx hb dL_law_248 (by decide) ?_
                    obtain ⟨q249, h249, hf⟩ := bd_t hf
                    refine cl_i (vx_runSW (As := [.ref (A 0), .int 9, .int 0, .int 0, .int 0, .int 0, .int 0]) (rest := []) S (mL_does l hfl D cI cZ A (q232.2.1) (q232.2.2.1) (q232.2.2.2.1) (q114.2) (q232.2.2.2.2.1) (q232.2.2.2.2.2.1) (q232.2.2.2.2.2.2) (aS (aS cg 4 3 1) 4 5 20) 9 0 0 0 0 0 H.size q249 h249) (vx_cwSW 7 hts gL_law_L_does rfl rfl rfl (by decide +kernel) ⟨Nat.le_of_ble_eq_true rfl, Nat.le_of_ble_eq_true rfl⟩) (xP_S (Cut.self _ []) hP hD hS hA hK hG hX hZ) rfl rfl hl.1 rfl (lv_room (Nat.le_of_ble_eq_true rfl)) dL_law_249 ⟨by show _ ≤ 788577; omega, by show _ ≤ 6735966; omega⟩) (Cut.self _ _) hP hD hS hA (fun H locs hP hD hS => ?_)
                    refine lv_sipush (v := (-2000)) hx hb dL_law_252 (by decide) ?_
                    refine lv_icmp_ne (tgt := 262) hx hb dL_law_255 (by decide) (fun c255 => ?_) (fun c255 => ?_)
                    · have hf := if_f c255 hf
                      refine W.widen (k := 66) (n := 2954) (by omega) (by omega) ?_
                      exact B262 _ _ _ _ _ _ _ _ hf H locs hP hD hS ls (lv_sub hl [0, 1, 2, 3, 4, 5, 6] rfl)
                    · have hf := if_t c255 hf
                      refine lv_iconst (v := 1) hx hb dL_law_258 (by decide) ?_
                      refine lv_goto (tgt := 263) hx hb dL_law_259 (by decide) ?_
                      refine W.widen (k := 66) (n := 2954) (by omega) (by omega) ?_
                      exact B263 _ _ _ _ _ _ _ _ _ hf H locs hP hD hS ls (lv_sub hl [0, 1, 2, 3, 4, 5, 6] rfl)
  have B82 : ∀ (cs : St) (cw : St) (ct : St) (cu : St) (cl : St) (cb : St) (cp : St) (cg : St) (x7 : Int32), fL_law_L82 L xs cs cw ct cu cl cb cp cg x7 = some 1 → Bk p l e room_1 s m #[Value.ref b] below meth c (lw_Z below #[Value.ref b] s) (fun q : Nat => s.heap.size ≤ q) D 13 58 2906 (wLW cI cZ A cs cw ct cu cl cb cp cg) [(0, .ref b), (1, .ref (A 0)), (2, .ref (A 53)), (3, .ref (A 54)), (4, .ref (A 55)), (5, .ref (A 56)), (6, .ref (A 57)), (7, .int x7)] 82 [] := by
    intro cs cw ct cu cl cb cp cg x7 hf
    refine loop_ind (step := (fun k a => fL_law_S82 L xs k cs cw ct cu cl cb cp (a.1) (a.2))) (fun a => Bk p l e room_1 s m #[Value.ref b] below meth c (lw_Z below #[Value.ref b] s) (fun q : Nat => s.heap.size ≤ q) D 13 58 2906 (wLW cI cZ A cs cw ct cu cl cb cp (a.1)) [(0, .ref b), (1, .ref (A 0)), (2, .ref (A 53)), (3, .ref (A 54)), (4, .ref (A 55)), (5, .ref (A 56)), (6, .ref (A 57)), (7, .int (a.2))] 82 []) ?_ _ _ hf
    clear hf
    intro k82 hk82 a hf
    obtain ⟨cg_, x7_⟩ := a
    clear cg x7
    obtain ⟨cg, e_⟩ : ∃ z, z = cg_ := ⟨_, rfl⟩
    subst e_
    obtain ⟨x7, e_⟩ : ∃ z, z = x7_ := ⟨_, rfl⟩
    subst e_
    have hf : fL_law_S82 L xs k82 cs cw ct cu cl cb cp cg x7 = some 1 := hf
    show Bk p l e room_1 s m #[Value.ref b] below meth c (lw_Z below #[Value.ref b] s) (fun q : Nat => s.heap.size ≤ q) D 13 58 2906 (wLW cI cZ A cs cw ct cu cl cb cp cg) [(0, .ref b), (1, .ref (A 0)), (2, .ref (A 53)), (3, .ref (A 54)), (4, .ref (A 55)), (5, .ref (A 56)), (6, .ref (A 57)), (7, .int x7)] 82 []
    unfold fL_law_S82 at hf
    intro H locs hP hD hS ls hl
    refine lv_iload hx hb dL_law_82 (lv_at hl 7 rfl) ?_
    refine lv_bipush (v := 6) hx hb dL_law_84 (by decide) ?_
    refine lv_icmp_ge (tgt := 102) hx hb dL_law_86 (by decide) (fun c86 => ?_) (fun c86 => ?_)
    · have hf := if_t c86 hf
      refine W.widen (k := 58) (n := 2906) (by omega) (by omega) ?_
      exact B102 _ _ _ _ _ _ _ _ hf H locs hP hD hS ls (lv_sub hl [0, 1, 2, 3, 4, 5, 6] rfl)
    · have hf := if_f c86 hf
      refine lv_aload hx hb dL_law_89 (lv_at hl 5 rfl) ?_
      refine lv_iload hx hb dL_law_91 (lv_at hl 7 rfl) ?_
      refine lv_bipush (v := 8) hx hb dL_law_93 (by decide) ?_
      obtain ⟨c95, hf⟩ := ck_t hf
      refine st_i hx hb hK hP hD hS 56 0 (sLW_56 _ _ _ _ _ _ _ _ _ _ _ _ _) (gLW_56 _ _ _ _ _ _ _ _ _ _ _) rfl c95 dL_law_95 (fun H locs hP hD hS => ?_)
      refine lv_iinc (v := x7 + 1) (lv' := [(7, .int (x7 + 1)), (0, .ref b), (1, .ref (A 0)), (2, .ref (A 53)), (3, .ref (A 54)), (4, .ref (A 55)), (5, .ref (A 56)), (6, .ref (A 57))]) hx hb dL_law_96 hl (k := 7) rfl rfl (by decide) rfl (fun ls hl => ?_)
      refine lv_goto (tgt := 82) hx hb dL_law_99 (by decide) ?_
      refine W.widen (k := 58) (n := 2906) (by omega) (by omega) ?_
      exact hk82 _ hf H locs hP hD hS ls (lv_sub hl [1, 2, 3, 4, 5, 6, 7, 0] rfl)
  have B79 : ∀ (cs : St) (cw : St) (ct : St) (cu : St) (cl : St) (cb : St) (cp : St) (cg : St), fL_law_J79 L xs cs cw ct cu cl cb cp cg = some 1 → Bk p l e room_1 s m #[Value.ref b] below meth c (lw_Z below #[Value.ref b] s) (fun q : Nat => s.heap.size ≤ q) D 13 58 2906 (wLW cI cZ A cs cw ct cu cl cb cp cg) [(0, .ref b), (1, .ref (A 0)), (2, .ref (A 53)), (3, .ref (A 54)), (4, .ref (A 55)), (5, .ref (A 56)), (6, .ref (A 57))] 79 [] := by
    intro cs cw ct cu cl cb cp cg hf
    unfold fL_law_J79 at hf
    intro H locs hP hD hS ls hl
    refine lv_iconst (v := 0) hx hb dL_law_79 (by decide) ?_
    refine lv_istore (lv' := [(7, .int 0), (0, .ref b), (1, .ref (A 0)), (2, .ref (A 53)), (3, .ref (A 54)), (4, .ref (A 55)), (5, .ref (A 56)), (6, .ref (A 57))]) hx hb dL_law_80 hl (by decide) rfl (fun ls hl => ?_)
    refine W.widen (k := 58) (n := 2906) (by omega) (by omega) ?_
    exact B82 _ _ _ _ _ _ _ _ _ hf H locs hP hD hS ls (lv_sub hl [1, 2, 3, 4, 5, 6, 7, 0] rfl)
  have B60 : ∀ (cs : St) (cw : St) (ct : St) (cu : St) (cl : St) (cb : St) (cp : St) (cg : St) (x7 : Int32), fL_law_L60 L xs cs cw ct cu cl cb cp cg x7 = some 1 → Bk p l e room_1 s m #[Value.ref b] below meth c (lw_Z below #[Value.ref b] s) (fun q : Nat => s.heap.size ≤ q) D 13 58 2906 (wLW cI cZ A cs cw ct cu cl cb cp cg) [(0, .ref b), (1, .ref (A 0)), (2, .ref (A 53)), (3, .ref (A 54)), (4, .ref (A 55)), (5, .ref (A 56)), (6, .ref (A 57)), (7, .int x7)] 60 [] := by
    intro cs cw ct cu cl cb cp cg x7 hf
    refine loop_ind (step := (fun k a => fL_law_S60 L xs k cs cw ct cu cl cb cp (a.1) (a.2))) (fun a => Bk p l e room_1 s m #[Value.ref b] below meth c (lw_Z below #[Value.ref b] s) (fun q : Nat => s.heap.size ≤ q) D 13 58 2906 (wLW cI cZ A cs cw ct cu cl cb cp (a.1)) [(0, .ref b), (1, .ref (A 0)), (2, .ref (A 53)), (3, .ref (A 54)), (4, .ref (A 55)), (5, .ref (A 56)), (6, .ref (A 57)), (7, .int (a.2))] 60 []) ?_ _ _ hf
    clear hf
    intro k60 hk60 a hf
    obtain ⟨cg_, x7_⟩ := a
    clear cg x7
    obtain ⟨cg, e_⟩ : ∃ z, z = cg_ := ⟨_, rfl⟩
    subst e_
    obtain ⟨x7, e_⟩ : ∃ z, z = x7_ := ⟨_, rfl⟩
    subst e_
    have hf : fL_law_S60 L xs k60 cs cw ct cu cl cb cp cg x7 = some 1 := hf
    show Bk p l e room_1 s m #[Value.ref b] below meth c (lw_Z below #[Value.ref b] s) (fun q : Nat => s.heap.size ≤ q) D 13 58 2906 (wLW cI cZ A cs cw ct cu cl cb cp cg) [(0, .ref b), (1, .ref (A 0)), (2, .ref (A 53)), (3, .ref (A 54)), (4, .ref (A 55)), (5, .ref (A 56)), (6, .ref (A 57)), (7, .int x7)] 60 []
    unfold fL_law_S60 at hf
    intro H locs hP hD hS ls hl
    refine lv_iload hx hb dL_law_60 (lv_at hl 7 rfl) ?_
    refine lv_bipush (v := 10) hx hb dL_law_62 (by decide) ?_
    refine lv_icmp_ge (tgt := 79) hx hb dL_law_64 (by decide) (fun c64 => ?_) (fun c64 => ?_)
    · have hf := if_t c64 hf
      refine W.widen (k := 58) (n := 2906) (by omega) (by omega) ?_
      exact B79 _ _ _ _ _ _ _ _ hf H locs hP hD hS ls (lv_sub hl [0, 1, 2, 3, 4, 5, 6] rfl)
    · have hf := if_f c64 hf
      refine lv_aload hx hb dL_law_67 (lv_at hl 4 rfl) ?_
      refine lv_iload hx hb dL_law_69 (lv_at hl 7 rfl) ?_
      refine lv_iconst (v := (-1)) hx hb dL_law_71 (by decide) ?_
      obtain ⟨c72, hf⟩ := ck_t hf
      refine st_i hx hb hK hP hD hS 55 0 (sLW_55 _ _ _ _ _ _ _ _ _ _ _ _ _) (gLW_55 _ _ _ _ _ _ _ _ _ _ _) rfl c72 dL_law_72 (fun H locs hP hD hS => ?_)
      refine lv_iinc (v := x7 + 1) (lv' := [(7, .int (x7 + 1)), (0, .ref b), (1, .ref (A 0)), (2, .ref (A 53)), (3, .ref (A 54)), (4, .ref (A 55)), (5, .ref (A 56)), (6, .ref (A 57))]) hx hb dL_law_73 hl (k := 7) rfl rfl (by decide) rfl (fun ls hl => ?_)
      refine lv_goto (tgt := 60) hx hb dL_law_76 (by decide) ?_
      refine W.widen (k := 58) (n := 2906) (by omega) (by omega) ?_
      exact hk60 _ hf H locs hP hD hS ls (lv_sub hl [1, 2, 3, 4, 5, 6, 7, 0] rfl)
  have B57 : ∀ (cs : St) (cw : St) (ct : St) (cu : St) (cl : St) (cb : St) (cp : St) (cg : St), fL_law_J57 L xs cs cw ct cu cl cb cp cg = some 1 → Bk p l e room_1 s m #[Value.ref b] below meth c (lw_Z below #[Value.ref b] s) (fun q : Nat => s.heap.size ≤ q) D 13 58 2906 (wLW cI cZ A cs cw ct cu cl cb cp cg) [(0, .ref b), (1, .ref (A 0)), (2, .ref (A 53)), (3, .ref (A 54)), (4, .ref (A 55)), (5, .ref (A 56)), (6, .ref (A 57))] 57 [] := by
    intro cs cw ct cu cl cb cp cg hf
    unfold fL_law_J57 at hf
    intro H locs hP hD hS ls hl
    refine lv_iconst (v := 0) hx hb dL_law_57 (by decide) ?_
    refine lv_istore (lv' := [(7, .int 0), (0, .ref b), (1, .ref (A 0)), (2, .ref (A 53)), (3, .ref (A 54)), (4, .ref (A 55)), (5, .ref (A 56)), (6, .ref (A 57))]) hx hb dL_law_58 hl (by decide) rfl (fun ls hl => ?_)
    refine W.widen (k := 58) (n := 2906) (by omega) (by omega) ?_
    exact B60 _ _ _ _ _ _ _ _ _ hf H locs hP hD hS ls (lv_sub hl [1, 2, 3, 4, 5, 6, 7, 0] rfl)
  have B39 : ∀ (cs : St) (cw : St) (ct : St) (cu : St) (cl : St) (cb : St) (cp : St) (cg : St) (x7 : Int32), fL_law_L39 L xs cs cw ct cu cl cb cp cg x7 = some 1 → Bk p l e room_1 s m #[Value.ref b] below meth c (lw_Z below #[Value.ref b] s) (fun q : Nat => s.heap.size ≤ q) D 13 58 2906 (wLW cI cZ A cs cw ct cu cl cb cp cg) [(0, .ref b), (1, .ref (A 0)), (2, .ref (A 53)), (3, .ref (A 54)), (4, .ref (A 55)), (5, .ref (A 56)), (6, .ref (A 57)), (7, .int x7)] 39 [] := by
    intro cs cw ct cu cl cb cp cg x7 hf
    refine loop_ind (step := (fun k a => fL_law_S39 L xs k cs cw ct cu cl cb cp (a.1) (a.2))) (fun a => Bk p l e room_1 s m #[Value.ref b] below meth c (lw_Z below #[Value.ref b] s) (fun q : Nat => s.heap.size ≤ q) D 13 58 2906 (wLW cI cZ A cs cw ct cu cl cb cp (a.1)) [(0, .ref b), (1, .ref (A 0)), (2, .ref (A 53)), (3, .ref (A 54)), (4, .ref (A 55)), (5, .ref (A 56)), (6, .ref (A 57)), (7, .int (a.2))] 39 []) ?_ _ _ hf
    clear hf
    intro k39 hk39 a hf
    obtain ⟨cg_, x7_⟩ := a
    clear cg x7
    obtain ⟨cg, e_⟩ : ∃ z, z = cg_ := ⟨_, rfl⟩
    subst e_
    obtain ⟨x7, e_⟩ : ∃ z, z = x7_ := ⟨_, rfl⟩
    subst e_
    have hf : fL_law_S39 L xs k39 cs cw ct cu cl cb cp cg x7 = some 1 := hf
    show Bk p l e room_1 s m #[Value.ref b] below meth c (lw_Z below #[Value.ref b] s) (fun q : Nat => s.heap.size ≤ q) D 13 58 2906 (wLW cI cZ A cs cw ct cu cl cb cp cg) [(0, .ref b), (1, .ref (A 0)), (2, .ref (A 53)), (3, .ref (A 54)), (4, .ref (A 55)), (5, .ref (A 56)), (6, .ref (A 57)), (7, .int x7)] 39 []
    unfold fL_law_S39 at hf
    intro H locs hP hD hS ls hl
    refine lv_iload hx hb dL_law_39 (lv_at hl 7 rfl) ?_
    refine lv_bipush (v := 30) hx hb dL_law_41 (by decide) ?_
    refine lv_icmp_ge (tgt := 57) hx hb dL_law_43 (by decide) (fun c43 => ?_) (fun c43 => ?_)
    · have hf := if_t c43 hf
      refine W.widen (k := 58) (n := 2906) (by omega) (by omega) ?_
      exact B57 _ _ _ _ _ _ _ _ hf H locs hP hD hS ls (lv_sub hl [0, 1, 2, 3, 4, 5, 6] rfl)
    · have hf := if_f c43 hf
      refine lv_aload_n hx hb dL_law_46 rfl (lv_at hl 2 rfl) ?_
      refine lv_iload hx hb dL_law_47 (lv_at hl 7 rfl) ?_
      refine lv_iconst (v := (-1)) hx hb dL_law_49 (by decide) ?_
      obtain ⟨c50, hf⟩ := ck_t hf
      refine st_i hx hb hK hP hD hS 53 0 (sLW_53 _ _ _ _ _ _ _ _ _ _ _ _ _) (gLW_53 _ _ _ _ _ _ _ _ _ _ _) rfl c50 dL_law_50 (fun H locs hP hD hS => ?_)
      refine lv_iinc (v := x7 + 1) (lv' := [(7, .int (x7 + 1)), (0, .ref b), (1, .ref (A 0)), (2, .ref (A 53)), (3, .ref (A 54)), (4, .ref (A 55)), (5, .ref (A 56)), (6, .ref (A 57))]) hx hb dL_law_51 hl (k := 7) rfl rfl (by decide) rfl (fun ls hl => ?_)
      refine lv_goto (tgt := 39) hx hb dL_law_54 (by decide) ?_
      refine W.widen (k := 58) (n := 2906) (by omega) (by omega) ?_
      exact hk39 _ hf H locs hP hD hS ls (lv_sub hl [1, 2, 3, 4, 5, 6, 7, 0] rfl)
  intro H locs hP hD hS ls hl
  have hl : lv_has ls 13 [(0, .ref b), (1, .ref (A 0)), (2, .ref (A 53)), (3, .ref (A 54)), (4, .ref (A 55)), (5, .ref (A 56)), (6, .ref (A 57))] := hl
  unfold fL_law at hf
  refine lv_iconst (v := 0) hx hb dL_law_36 (by decide) ?_
  refine lv_istore (lv' := [(7, .int 0), (0, .ref b), (1, .ref (A 0)), (2, .ref (A 53)), (3, .ref (A 54)), (4, .ref (A 55)), (5, .ref (A 56)), (6, .ref (A 57))]) hx hb dL_law_37 hl (by decide) rfl (fun ls hl => ?_)
  refine W.widen (k := 58) (n := 2906) (by omega) (by omega) ?_
  exact B39 _ _ _ _ _ _ _ _ _ hf H locs hP hD hS ls (lv_sub hl [1, 2, 3, 4, 5, 6, 7, 0] rfl)

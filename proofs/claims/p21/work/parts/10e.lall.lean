set_option maxHeartbeats 16000000 in
set_option maxRecDepth 100000 in
theorem mL_areAll (l : Launch) (hfl : l.stackTraces = false) (D : va_G) (cI cZ : ClassId) (A : Nat → Nat) (cs : St) (cw : St) (ct : St) (cu : St) (cl : St) (cb : St) (cp : St) (cg : St) (sz : Nat) (res : Int32 × St) (hf : fL_areAll cs cw ct cb cg = some res) : Met l yL_areAll wsL_areAll ({ frames := 11, cells := 8, slots := 48, locals := 211 }) (xP D (tysX cI cZ) [.ref (A 0), .ref (A 53), .ref (A 54), .ref (A 55), .ref (A 56), .ref (A 57)] (wLW cI cZ A cs cw ct cu cl cb cp cg) sz) (mQi D res.1 (wLW cI cZ A cs cw ct cu cl cb cp cg) (wLW cI cZ A cs cw (res.2) cu cl cb cp cg) sz) 8 48 (va_A (wLW cI cZ A cs cw ct cu cl cb cp cg) sz) := by
  refine mkL (cc := cL_areAll) (maxL := 14) (by decide +kernel) rfl rfl (Nat.le_of_ble_eq_true rfl) ?_
  intro p e s m args below meth c A0 Q S hK hG hX hZ hA hR
  obtain ⟨hx, hb, hml, hown, hts⟩ := id S
  have B525 : ∀ (ct : St) (x6 : Int32) (x7 : Int32), fL_areAll_J525 cs cw ct cb cg x6 x7 = some res → Bk p l e ({ frames := 11, cells := 8, slots := 48, locals := 211 }) s m args below meth c Q A0 D 14 8 48 (wLW cI cZ A cs cw ct cu cl cb cp cg) [(5, .ref (A 57)), (6, .int x6), (7, .int x7)] 525 [] := by
    intro ct x6 x7 hf
    unfold fL_areAll_J525 at hf
    intro H locs hP hD hS ls hl
    refine lv_iload hx hb dL_areAll_525 (lv_at hl 1 rfl) ?_
    refine lv_if_eq (tgt := 543) hx hb dL_areAll_527 (by decide) (fun c527 => ?_) (fun c527 => ?_)
    · have hf := if_t c527 hf
      refine lv_iconst (v := 0) hx hb dL_areAll_543 (by decide) ?_
      exact hR _ ls H locs _ _ _ _ (congrArg (fun q => q.1) (Option.some.inj hf)) (congrArg (fun q => (wLW cI cZ A cs cw (q.2) cu cl cb cp cg)) (Option.some.inj hf)) (by decide) (by omega) (by omega) dL_areAll_544 hP hD hS
    · have hf := if_f c527 hf
      refine lv_iload hx hb dL_areAll_530 (lv_at hl 2 rfl) ?_
      refine lv_aload hx hb dL_areAll_532 (lv_at hl 0 rfl) ?_
      refine lv_iconst (v := 4) hx hb dL_areAll_534 (by decide) ?_
      obtain ⟨c535, hf⟩ := ck_t hf
      refine va_iald (f := cg 4) hx hb hK hP 57 0 (gLW_57 _ _ _ _ _ _ _ _ _ _ _) rfl (inb_in c535) dL_areAll_535 ?_
      refine lv_icmp_ne (tgt := 543) hx hb dL_areAll_536 (by decide) (fun c536 => ?_) (fun c536 => ?_)
      · have hf := if_f c536 hf
        refine lv_iconst (v := 0) hx hb dL_areAll_543 (by decide) ?_
        exact hR _ ls H locs _ _ _ _ (congrArg (fun q => q.1) (Option.some.inj hf)) (congrArg (fun q => (wLW cI cZ A cs cw (q.2) cu cl cb cp cg)) (Option.some.inj hf)) (by decide) (by omega) (by omega) dL_areAll_544 hP hD hS
      · have hf := if_t c536 hf
        refine lv_iconst (v := 1) hx hb dL_areAll_539 (by decide) ?_
        refine lv_goto (tgt := 544) hx hb dL_areAll_540 (by decide) ?_
        exact hR _ ls H locs _ _ _ _ (congrArg (fun q => q.1) (Option.some.inj hf)) (congrArg (fun q => (wLW cI cZ A cs cw (q.2) cu cl cb cp cg)) (Option.some.inj hf)) (by decide) (by omega) (by omega) dL_areAll_544 hP hD hS
  have B500 : ∀ (ct : St) (x6 : Int32) (x7 : Int32) (x8 : Int32), fL_areAll_L500 cs cw ct cb cg x6 x7 x8 = some res → Bk p l e ({ frames := 11, cells := 8, slots := 48, locals := 211 }) s m args below meth c Q A0 D 14 8 48 (wLW cI cZ A cs cw ct cu cl cb cp cg) [(0, .ref (A 0)), (5, .ref (A 57)), (6, .int x6), (7, .int x7), (8, .int x8)] 500 [] := by
    intro ct x6 x7 x8 hf
    refine loop_ind (step := (fun k a => fL_areAll_S500 k cs cw ct cb cg x6 (a.1) (a.2))) (fun a => Bk p l e ({ frames := 11, cells := 8, slots := 48, locals := 211 }) s m args below meth c Q A0 D 14 8 48 (wLW cI cZ A cs cw ct cu cl cb cp cg) [(0, .ref (A 0)), (5, .ref (A 57)), (6, .int x6), (7, .int (a.1)), (8, .int (a.2))] 500 []) ?_ _ _ hf
    clear hf
    intro k500 hk500 a hf
    obtain ⟨x7_, x8_⟩ := a
    clear x7 x8
    obtain ⟨x7, e_⟩ : ∃ z, z = x7_ := ⟨_, rfl⟩
    subst e_
    obtain ⟨x8, e_⟩ : ∃ z, z = x8_ := ⟨_, rfl⟩
    subst e_
    have hf : fL_areAll_S500 k500 cs cw ct cb cg x6 x7 x8 = some res := hf
    show Bk p l e ({ frames := 11, cells := 8, slots := 48, locals := 211 }) s m args below meth c Q A0 D 14 8 48 (wLW cI cZ A cs cw ct cu cl cb cp cg) [(0, .ref (A 0)), (5, .ref (A 57)), (6, .int x6), (7, .int x7), (8, .int x8)] 500 []
    unfold fL_areAll_S500 at hf
    intro H locs hP hD hS ls hl
    refine lv_iload hx hb dL_areAll_500 (lv_at hl 4 rfl) ?_
    refine lv_bipush (v := 10) hx hb dL_areAll_502 (by decide) ?_
    refine lv_icmp_ge (tgt := 525) hx hb dL_areAll_504 (by decide) (fun c504 => ?_) (fun c504 => ?_)
    · have hf := if_t c504 hf
      refine W.widen (k := 8) (n := 48) (by omega) (by omega) ?_
      exact B525 _ _ _ hf H locs hP hD hS ls (lv_sub hl [1, 2, 3] rfl)
    · have hf := if_f c504 hf
      refine lv_iload hx hb dL_areAll_507 (lv_at hl 3 rfl) ?_
      refine lv_aload_n hx hb dL_areAll_509 rfl (lv_at hl 0 rfl) ?_
      refine lv_iload hx hb dL_areAll_510 (lv_at hl 4 rfl) ?_
      refine lv_iconst (v := 0) hx hb dL_areAll_512 (by decide) ?_
      obtain ⟨q513, h513, hf⟩ := bn_t hf
      refine cl_i (va_runV (As := [.int x8, .int 0]) (rest := [.int x7]) S (mX5_got l D cI cZ (aLW_X5_0_1_2_3_4_5_6 A) cs cw ct cu cl cb cp x8 0 H.size q513 h513) (cwV 2 hts gL_areAll_X5_got rfl rfl rfl (by decide +kernel) ⟨Nat.le_of_ble_eq_true rfl, Nat.le_of_ble_eq_true rfl⟩) (mP_V (ci := 5) (cutLW_X5_0_1_2_3_4_5_6 _ _ _ _ _ _ _ _ _ _ _ st0 st0 st0 st0 st0 st0 st0) hP hD hK hG rfl (gX5_0 _ _ _ _ _ _ _ _ _ _)) rfl rfl hl.1 rfl (lv_room (Nat.le_of_ble_eq_true rfl)) dL_areAll_513 ⟨by show _ ≤ 8; omega, by show _ ≤ 48; omega⟩) (cutLW_X5_0_1_2_3_4_5_6 _ _ _ _ _ _ _ _ _ _ _ _ _ _ _ _ _ _) hP hD hS hA (fun H locs hP hD hS => ?_)
      refine lv_iadd hx hb dL_areAll_516 ?_
      refine lv_istore (lv' := [(7, .int (x7 + q513)), (0, .ref (A 0)), (5, .ref (A 57)), (6, .int x6), (8, .int x8)]) hx hb dL_areAll_517 hl (by decide) rfl (fun ls hl => ?_)
      refine lv_iinc (v := x8 + 1) (lv' := [(8, .int (x8 + 1)), (7, .int (x7 + q513)), (0, .ref (A 0)), (5, .ref (A 57)), (6, .int x6)]) hx hb dL_areAll_519 hl (k := 4) rfl rfl (by decide) rfl (fun ls hl => ?_)
      refine lv_goto (tgt := 500) hx hb dL_areAll_522 (by decide) ?_
      refine W.widen (k := 8) (n := 48) (by omega) (by omega) ?_
      exact hk500 _ hf H locs hP hD hS ls (lv_sub hl [2, 3, 4, 1, 0] rfl)
  have B497 : ∀ (ct : St) (x6 : Int32) (x7 : Int32), fL_areAll_J497 cs cw ct cb cg x6 x7 = some res → Bk p l e ({ frames := 11, cells := 8, slots := 48, locals := 211 }) s m args below meth c Q A0 D 14 8 48 (wLW cI cZ A cs cw ct cu cl cb cp cg) [(0, .ref (A 0)), (5, .ref (A 57)), (6, .int x6), (7, .int x7)] 497 [] := by
    intro ct x6 x7 hf
    unfold fL_areAll_J497 at hf
    intro H locs hP hD hS ls hl
    refine lv_iconst (v := 0) hx hb dL_areAll_497 (by decide) ?_
    refine lv_istore (lv' := [(8, .int 0), (0, .ref (A 0)), (5, .ref (A 57)), (6, .int x6), (7, .int x7)]) hx hb dL_areAll_498 hl (by decide) rfl (fun ls hl => ?_)
    refine W.widen (k := 8) (n := 48) (by omega) (by omega) ?_
    exact B500 _ _ _ _ hf H locs hP hD hS ls (lv_sub hl [1, 2, 3, 4, 0] rfl)
  have B458 : ∀ (ct : St) (x7 : Int32) (x8 : Int32) (y0 : Int32) (c1 s1 : Nat) (hcb : c1 + 1 ≤ 8) (hsb : s1 + 6 ≤ 48) (k242 : (St × Int32 × Int32) → Option (Int32 × St)) (hk242 : ∀ a242, k242 a242 = some res → Bk p l e ({ frames := 11, cells := 8, slots := 48, locals := 211 }) s m args below meth c Q A0 D 14 (c1 + 1) (s1 + 6) (wLW cI cZ A cs cw (a242.1) cu cl cb cp cg) [(0, .ref (A 0)), (1, .ref (A 53)), (2, .ref (A 54)), (4, .ref (A 56)), (5, .ref (A 57)), (6, .int (a242.2.1)), (7, .int x7), (8, .int (a242.2.2))] 242 []), fL_areAll_J458 k242 cs cw ct cb cg x7 x8 y0 = some res → Bk p l e ({ frames := 11, cells := 8, slots := 48, locals := 211 }) s m args below meth c Q A0 D 14 (c1 + 0) (s1 + 0) (wLW cI cZ A cs cw ct cu cl cb cp cg) [(0, .ref (A 0)), (1, .ref (A 53)), (2, .ref (A 54)), (4, .ref (A 56)), (5, .ref (A 57)), (7, .int x7), (8, .int x8)] 458 [.int y0] := by
    intro ct x7 x8 y0 c1 s1 hcb hsb k242 hk242 hf
    unfold fL_areAll_J458 at hf
    intro H locs hP hD hS ls hl
    refine lv_istore (lv' := [(6, .int y0), (0, .ref (A 0)), (1, .ref (A 53)), (2, .ref (A 54)), (4, .ref (A 56)), (5, .ref (A 57)), (7, .int x7), (8, .int x8)]) hx hb dL_areAll_458 hl (by decide) rfl (fun ls hl => ?_)
    refine lv_iload hx hb dL_areAll_460 (lv_at hl 0 rfl) ?_
    refine lv_if_eq (tgt := 488) hx hb dL_areAll_462 (by decide) (fun c462 => ?_) (fun c462 => ?_)
    · have hf := if_t c462 hf
      refine lv_iconst (v := 0) hx hb dL_areAll_488 (by decide) ?_
      refine lv_istore (lv' := [(6, .int 0), (0, .ref (A 0)), (1, .ref (A 53)), (2, .ref (A 54)), (4, .ref (A 56)), (5, .ref (A 57)), (7, .int x7), (8, .int x8)]) hx hb dL_areAll_489 hl (by decide) rfl (fun ls hl => ?_)
      refine lv_iinc (v := x8 + 1) (lv' := [(8, .int (x8 + 1)), (6, .int 0), (0, .ref (A 0)), (1, .ref (A 53)), (2, .ref (A 54)), (4, .ref (A 56)), (5, .ref (A 57)), (7, .int x7)]) hx hb dL_areAll_491 hl (k := 7) rfl rfl (by decide) rfl (fun ls hl => ?_)
      refine lv_goto (tgt := 242) hx hb dL_areAll_494 (by decide) ?_
      refine W.widen (k := c1 + 1) (n := s1 + 6) (by omega) (by omega) ?_
      exact hk242 _ hf H locs hP hD hS ls (lv_sub hl [2, 3, 4, 5, 6, 1, 7, 0] rfl)
    · have hf := if_f c462 hf
      refine lv_aload_n hx hb dL_areAll_465 rfl (lv_at hl 1 rfl) ?_
      refine lv_iload hx hb dL_areAll_466 (lv_at hl 7 rfl) ?_
      obtain ⟨q468, h468, hf⟩ := bn_t hf
      refine cl_i (va_runV (As := [.int x8]) (rest := []) S (mX5_found l D cI cZ (aLW_X5_0_1_2_3_4_5_6 A) cs cw ct cu cl cb cp x8 H.size q468 h468) (cwV 1 hts gL_areAll_X5_found rfl rfl rfl (by decide +kernel) ⟨Nat.le_of_ble_eq_true rfl, Nat.le_of_ble_eq_true rfl⟩) (mP_V (ci := 5) (cutLW_X5_0_1_2_3_4_5_6 _ _ _ _ _ _ _ _ _ _ _ st0 st0 st0 st0 st0 st0 st0) hP hD hK hG rfl (gX5_0 _ _ _ _ _ _ _ _ _ _)) rfl rfl hl.1 rfl (lv_room (Nat.le_of_ble_eq_true rfl)) dL_areAll_468 ⟨by show _ ≤ 8; omega, by show _ ≤ 48; omega⟩) (cutLW_X5_0_1_2_3_4_5_6 _ _ _ _ _ _ _ _ _ _ _ _ _ _ _ _ _ _) hP hD hS hA (fun H locs hP hD hS => ?_)
      refine lv_aload_n hx hb dL_areAll_471 rfl (lv_at hl 1 rfl) ?_
      refine lv_aload_n hx hb dL_areAll_472 rfl (lv_at hl 2 rfl) ?_
      refine lv_aload_n hx hb dL_areAll_473 rfl (lv_at hl 3 rfl) ?_
      refine lv_aload hx hb dL_areAll_474 (lv_at hl 4 rfl) ?_
      refine lv_iload hx hb dL_areAll_476 (lv_at hl 7 rfl) ?_
      obtain ⟨q478, h478, hf⟩ := bd_t hf
      refine cl_i (va_runS (As := [.ref (A 0), .ref (A 53), .ref (A 54), .ref (A 56), .int x8]) (rest := [.int q468.1]) S (mL_found l hfl D cI cZ A cs cw (q468.2) cu cl cb cp cg x8 H.size q478 h478) (va_cwS 5 hts gL_areAll_L_found rfl rfl rfl (by decide +kernel) ⟨Nat.le_of_ble_eq_true rfl, Nat.le_of_ble_eq_true rfl⟩) (xP_S (Cut.self _ []) hP hD hS hA hK hG hX hZ) rfl rfl hl.1 rfl (lv_room (Nat.le_of_ble_eq_true rfl)) dL_areAll_478 ⟨by show _ ≤ 8; omega, by show _ ≤ 48; omega⟩) (Cut.self _ _) hP hD hS hA (fun H locs hP hD hS => ?_)
      refine lv_icmp_ne (tgt := 488) hx hb dL_areAll_481 (by decide) (fun c481 => ?_) (fun c481 => ?_)
      · have hf := if_f c481 hf
        refine lv_iconst (v := 0) hx hb dL_areAll_488 (by decide) ?_
        refine lv_istore (lv' := [(6, .int 0), (0, .ref (A 0)), (1, .ref (A 53)), (2, .ref (A 54)), (4, .ref (A 56)), (5, .ref (A 57)), (7, .int x7), (8, .int x8)]) hx hb dL_areAll_489 hl (by decide) rfl (fun ls hl => ?_)
        refine lv_iinc (v := x8 + 1) (lv' := [(8, .int (x8 + 1)), (6, .int 0), (0, .ref (A 0)), (1, .ref (A 53)), (2, .ref (A 54)), (4, .ref (A 56)), (5, .ref (A 57)), (7, .int x7)]) hx hb dL_areAll_491 hl (k := 7) rfl rfl (by decide) rfl (fun ls hl => ?_)
        refine lv_goto (tgt := 242) hx hb dL_areAll_494 (by decide) ?_
        refine W.widen (k := c1 + 1) (n := s1 + 6) (by omega) (by omega) ?_
        exact hk242 _ hf H locs hP hD hS ls (lv_sub hl [2, 3, 4, 5, 6, 1, 7, 0] rfl)
      · have hf := if_t c481 hf
        refine lv_iconst (v := 1) hx hb dL_areAll_484 (by decide) ?_
        refine lv_goto (tgt := 489) hx hb dL_areAll_485 (by decide) ?_
        refine lv_istore (lv' := [(6, .int 1), (0, .ref (A 0)), (1, .ref (A 53)), (2, .ref (A 54)), (4, .ref (A 56)), (5, .ref (A 57)), (7, .int x7), (8, .int x8)]) hx hb dL_areAll_489 hl (by decide) rfl (fun ls hl => ?_)
        refine lv_iinc (v := x8 + 1) (lv' := [(8, .int (x8 + 1)), (6, .int 1), (0, .ref (A 0)), (1, .ref (A 53)), (2, .ref (A 54)), (4, .ref (A 56)), (5, .ref (A 57)), (7, .int x7)]) hx hb dL_areAll_491 hl (k := 7) rfl rfl (by decide) rfl (fun ls hl => ?_)
        refine lv_goto (tgt := 242) hx hb dL_areAll_494 (by decide) ?_
        refine W.widen (k := c1 + 1) (n := s1 + 6) (by omega) (by omega) ?_
        exact hk242 _ hf H locs hP hD hS ls (lv_sub hl [2, 3, 4, 5, 6, 1, 7, 0] rfl)
  have B457 : ∀ (ct : St) (x7 : Int32) (x8 : Int32) (c1 s1 : Nat) (hcb : c1 + 1 ≤ 8) (hsb : s1 + 6 ≤ 48) (k242 : (St × Int32 × Int32) → Option (Int32 × St)) (hk242 : ∀ a242, k242 a242 = some res → Bk p l e ({ frames := 11, cells := 8, slots := 48, locals := 211 }) s m args below meth c Q A0 D 14 (c1 + 1) (s1 + 6) (wLW cI cZ A cs cw (a242.1) cu cl cb cp cg) [(0, .ref (A 0)), (1, .ref (A 53)), (2, .ref (A 54)), (4, .ref (A 56)), (5, .ref (A 57)), (6, .int (a242.2.1)), (7, .int x7), (8, .int (a242.2.2))] 242 []), fL_areAll_J457 k242 cs cw ct cb cg x7 x8 = some res → Bk p l e ({ frames := 11, cells := 8, slots := 48, locals := 211 }) s m args below meth c Q A0 D 14 (c1 + 0) (s1 + 0) (wLW cI cZ A cs cw ct cu cl cb cp cg) [(0, .ref (A 0)), (1, .ref (A 53)), (2, .ref (A 54)), (4, .ref (A 56)), (5, .ref (A 57)), (7, .int x7), (8, .int x8)] 457 [] := by
    intro ct x7 x8 c1 s1 hcb hsb k242 hk242 hf
    unfold fL_areAll_J457 at hf
    intro H locs hP hD hS ls hl
    refine lv_iconst (v := 0) hx hb dL_areAll_457 (by decide) ?_
    refine W.widen (k := c1 + 0) (n := s1 + 0) (by omega) (by omega) ?_
    exact B458 _ _ _ _ c1 s1 hcb hsb k242 hk242 hf H locs hP hD hS ls (lv_sub hl [0, 1, 2, 3, 4, 5, 6] rfl)
  have B349 : ∀ (ct : St) (x6 : Int32) (x7 : Int32) (x8 : Int32) (x9 : Int32) (c1 s1 : Nat) (hcb : c1 + 1 ≤ 8) (hsb : s1 + 6 ≤ 48) (k242 : (St × Int32 × Int32) → Option (Int32 × St)) (hk242 : ∀ a242, k242 a242 = some res → Bk p l e ({ frames := 11, cells := 8, slots := 48, locals := 211 }) s m args below meth c Q A0 D 14 (c1 + 1) (s1 + 6) (wLW cI cZ A cs cw (a242.1) cu cl cb cp cg) [(0, .ref (A 0)), (1, .ref (A 53)), (2, .ref (A 54)), (4, .ref (A 56)), (5, .ref (A 57)), (6, .int (a242.2.1)), (7, .int x7), (8, .int (a242.2.2))] 242 []), fL_areAll_J349 k242 cs cw ct cb cg x6 x7 x8 x9 = some res → Bk p l e ({ frames := 11, cells := 8, slots := 48, locals := 211 }) s m args below meth c Q A0 D 14 (c1 + 0) (s1 + 0) (wLW cI cZ A cs cw ct cu cl cb cp cg) [(0, .ref (A 0)), (1, .ref (A 53)), (2, .ref (A 54)), (4, .ref (A 56)), (5, .ref (A 57)), (6, .int x6), (7, .int x7), (8, .int x8), (9, .int x9)] 349 [] := by
    intro ct x6 x7 x8 x9 c1 s1 hcb hsb k242 hk242 hf
    unfold fL_areAll_J349 at hf
    intro H locs hP hD hS ls hl
    refine lv_aload_n hx hb dL_areAll_349 rfl (lv_at hl 0 rfl) ?_
    refine lv_iload hx hb dL_areAll_350 (lv_at hl 7 rfl) ?_
    refine lv_iconst (v := 0) hx hb dL_areAll_352 (by decide) ?_
    obtain ⟨q353, h353, hf⟩ := bn_t hf
    refine cl_i (va_runV (As := [.int x8, .int 0]) (rest := []) S (mX5_holds l D cI cZ (aLW_X5_0_1_2_3_4_5_6 A) cs cw ct cu cl cb cp x8 0 H.size q353 h353) (cwV 2 hts gL_areAll_X5_holds rfl rfl rfl (by decide +kernel) ⟨Nat.le_of_ble_eq_true rfl, Nat.le_of_ble_eq_true rfl⟩) (mP_V (ci := 5) (cutLW_X5_0_1_2_3_4_5_6 _ _ _ _ _ _ _ _ _ _ _ st0 st0 st0 st0 st0 st0 st0) hP hD hK hG rfl (gX5_0 _ _ _ _ _ _ _ _ _ _)) rfl rfl hl.1 rfl (lv_room (Nat.le_of_ble_eq_true rfl)) dL_areAll_353 ⟨by show _ ≤ 8; omega, by show _ ≤ 48; omega⟩) (cutLW_X5_0_1_2_3_4_5_6 _ _ _ _ _ _ _ _ _ _ _ _ _ _ _ _ _ _) hP hD hS hA (fun H locs hP hD hS => ?_)
    refine lv_istore (lv' := [(10, .int q353), (0, .ref (A 0)), (1, .ref (A 53)), (2, .ref (A 54)), (4, .ref (A 56)), (5, .ref (A 57)), (6, .int x6), (7, .int x7), (8, .int x8), (9, .int x9)]) hx hb dL_areAll_356 hl (by decide) rfl (fun ls hl => ?_)
    refine lv_iload hx hb dL_areAll_358 (lv_at hl 6 rfl) ?_
    refine lv_if_eq (tgt := 457) hx hb dL_areAll_360 (by decide) (fun c360 => ?_) (fun c360 => ?_)
    · have hf := if_t c360 hf
      refine W.widen (k := c1 + 0) (n := s1 + 0) (by omega) (by omega) ?_
      exact B457 _ _ _ c1 s1 hcb hsb k242 hk242 hf H locs hP hD hS ls (lv_sub hl [1, 2, 3, 4, 5, 7, 8] rfl)
    · have hf := if_f c360 hf
      refine lv_iload hx hb dL_areAll_363 (lv_at hl 9 rfl) ?_
      refine lv_aload_n hx hb dL_areAll_365 rfl (lv_at hl 1 rfl) ?_
      refine lv_iload hx hb dL_areAll_366 (lv_at hl 8 rfl) ?_
      refine lv_iconst (v := 4) hx hb dL_areAll_368 (by decide) ?_
      obtain ⟨q369, h369, hf⟩ := bn_t hf
      refine cl_i (va_runV (As := [.int x8, .int 4]) (rest := [.int x9]) S (mX5_holds l D cI cZ (aLW_X5_0_1_2_3_4_5_6 A) cs cw ct cu cl cb cp x8 4 H.size q369 h369) (cwV 2 hts gL_areAll_X5_holds rfl rfl rfl (by decide +kernel) ⟨Nat.le_of_ble_eq_true rfl, Nat.le_of_ble_eq_true rfl⟩) (mP_V (ci := 5) (cutLW_X5_0_1_2_3_4_5_6 _ _ _ _ _ _ _ _ _ _ _ st0 st0 st0 st0 st0 st0 st0) hP hD hK hG rfl (gX5_0 _ _ _ _ _ _ _ _ _ _)) rfl rfl hl.1 rfl (lv_room (Nat.le_of_ble_eq_true rfl)) dL_areAll_369 ⟨by show _ ≤ 8; omega, by show _ ≤ 48; omega⟩) (cutLW_X5_0_1_2_3_4_5_6 _ _ _ _ _ _ _ _ _ _ _ _ _ _ _ _ _ _) hP hD hS hA (fun H locs hP hD hS => ?_)
      refine lv_icmp_ne (tgt := 457) hx hb dL_areAll_372 (by decide) (fun c372 => ?_) (fun c372 => ?_)
      · have hf := if_f c372 hf
        refine W.widen (k := c1 + 0) (n := s1 + 0) (by omega) (by omega) ?_
        exact B457 _ _ _ c1 s1 hcb hsb k242 hk242 hf H locs hP hD hS ls (lv_sub hl [1, 2, 3, 4, 5, 7, 8] rfl)
      · have hf := if_t c372 hf
        refine lv_iload hx hb dL_areAll_375 (lv_at hl 9 rfl) ?_
        refine lv_bipush (v := 9) hx hb dL_areAll_377 (by decide) ?_
        refine lv_icmp_ge (tgt := 457) hx hb dL_areAll_379 (by decide) (fun c379 => ?_) (fun c379 => ?_)
        · have hf := if_t c379 hf
          refine W.widen (k := c1 + 0) (n := s1 + 0) (by omega) (by omega) ?_
          exact B457 _ _ _ c1 s1 hcb hsb k242 hk242 hf H locs hP hD hS ls (lv_sub hl [1, 2, 3, 4, 5, 7, 8] rfl)
        · have hf := if_f c379 hf
          refine lv_iload hx hb dL_areAll_382 (lv_at hl 0 rfl) ?_
          refine lv_if_lt (tgt := 457) hx hb dL_areAll_384 (by decide) (fun c384 => ?_) (fun c384 => ?_)
          · have hf := if_t c384 hf
            refine W.widen (k := c1 + 0) (n := s1 + 0) (by omega) (by omega) ?_
            exact B457 _ _ _ c1 s1 hcb hsb k242 hk242 hf H locs hP hD hS ls (lv_sub hl [1, 2, 3, 4, 5, 7, 8] rfl)
          · have hf := if_f c384 hf
            refine lv_iload hx hb dL_areAll_387 (lv_at hl 0 rfl) ?_
            refine lv_bipush (v := 6) hx hb dL_areAll_389 (by decide) ?_
            refine lv_icmp_ge (tgt := 457) hx hb dL_areAll_391 (by decide) (fun c391 => ?_) (fun c391 => ?_)
            · have hf := if_t c391 hf
              refine W.widen (k := c1 + 0) (n := s1 + 0) (by omega) (by omega) ?_
              exact B457 _ _ _ c1 s1 hcb hsb k242 hk242 hf H locs hP hD hS ls (lv_sub hl [1, 2, 3, 4, 5, 7, 8] rfl)
            · have hf := if_f c391 hf
              refine lv_aload_n hx hb dL_areAll_394 rfl (lv_at hl 1 rfl) ?_
              refine lv_iload hx hb dL_areAll_395 (lv_at hl 8 rfl) ?_
              refine lv_iconst (v := 2) hx hb dL_areAll_397 (by decide) ?_
              obtain ⟨q398, h398, hf⟩ := bn_t hf
              refine cl_i (va_runV (As := [.int x8, .int 2]) (rest := []) S (mX5_holds l D cI cZ (aLW_X5_0_1_2_3_4_5_6 A) cs cw ct cu cl cb cp x8 2 H.size q398 h398) (cwV 2 hts gL_areAll_X5_holds rfl rfl rfl (by decide +kernel) ⟨Nat.le_of_ble_eq_true rfl, Nat.le_of_ble_eq_true rfl⟩) (mP_V (ci := 5) (cutLW_X5_0_1_2_3_4_5_6 _ _ _ _ _ _ _ _ _ _ _ st0 st0 st0 st0 st0 st0 st0) hP hD hK hG rfl (gX5_0 _ _ _ _ _ _ _ _ _ _)) rfl rfl hl.1 rfl (lv_room (Nat.le_of_ble_eq_true rfl)) dL_areAll_398 ⟨by show _ ≤ 8; omega, by show _ ≤ 48; omega⟩) (cutLW_X5_0_1_2_3_4_5_6 _ _ _ _ _ _ _ _ _ _ _ _ _ _ _ _ _ _) hP hD hS hA (fun H locs hP hD hS => ?_)
              refine lv_bipush (v := 8) hx hb dL_areAll_401 (by decide) ?_
              refine lv_icmp_ge (tgt := 457) hx hb dL_areAll_403 (by decide) (fun c403 => ?_) (fun c403 => ?_)
              · have hf := if_t c403 hf
                refine W.widen (k := c1 + 0) (n := s1 + 0) (by omega) (by omega) ?_
                exact B457 _ _ _ c1 s1 hcb hsb k242 hk242 hf H locs hP hD hS ls (lv_sub hl [1, 2, 3, 4, 5, 7, 8] rfl)
              · have hf := if_f c403 hf
                refine lv_aload_n hx hb dL_areAll_406 rfl (lv_at hl 1 rfl) ?_
                refine lv_iload hx hb dL_areAll_407 (lv_at hl 8 rfl) ?_
                refine lv_iconst (v := 1) hx hb dL_areAll_409 (by decide) ?_
                obtain ⟨q410, h410, hf⟩ := bn_t hf
                refine cl_i (va_runV (As := [.int x8, .int 1]) (rest := []) S (mX5_holds l D cI cZ (aLW_X5_0_1_2_3_4_5_6 A) cs cw ct cu cl cb cp x8 1 H.size q410 h410) (cwV 2 hts gL_areAll_X5_holds rfl rfl rfl (by decide +kernel) ⟨Nat.le_of_ble_eq_true rfl, Nat.le_of_ble_eq_true rfl⟩) (mP_V (ci := 5) (cutLW_X5_0_1_2_3_4_5_6 _ _ _ _ _ _ _ _ _ _ _ st0 st0 st0 st0 st0 st0 st0) hP hD hK hG rfl (gX5_0 _ _ _ _ _ _ _ _ _ _)) rfl rfl hl.1 rfl (lv_room (Nat.le_of_ble_eq_true rfl)) dL_areAll_410 ⟨by show _ ≤ 8; omega, by show _ ≤ 48; omega⟩) (cutLW_X5_0_1_2_3_4_5_6 _ _ _ _ _ _ _ _ _ _ _ _ _ _ _ _ _ _) hP hD hS hA (fun H locs hP hD hS => ?_)
                refine lv_if_lt (tgt := 457) hx hb dL_areAll_413 (by decide) (fun c413 => ?_) (fun c413 => ?_)
                · have hf := if_t c413 hf
                  refine W.widen (k := c1 + 0) (n := s1 + 0) (by omega) (by omega) ?_
                  exact B457 _ _ _ c1 s1 hcb hsb k242 hk242 hf H locs hP hD hS ls (lv_sub hl [1, 2, 3, 4, 5, 7, 8] rfl)
                · have hf := if_f c413 hf
                  refine lv_aload_n hx hb dL_areAll_416 rfl (lv_at hl 1 rfl) ?_
                  refine lv_iload hx hb dL_areAll_417 (lv_at hl 8 rfl) ?_
                  refine lv_iconst (v := 3) hx hb dL_areAll_419 (by decide) ?_
                  obtain ⟨q420, h420, hf⟩ := bn_t hf
                  refine cl_i (va_runV (As := [.int x8, .int 3]) (rest := []) S (mX5_holds l D cI cZ (aLW_X5_0_1_2_3_4_5_6 A) cs cw ct cu cl cb cp x8 3 H.size q420 h420) (cwV 2 hts gL_areAll_X5_holds rfl rfl rfl (by decide +kernel) ⟨Nat.le_of_ble_eq_true rfl, Nat.le_of_ble_eq_true rfl⟩) (mP_V (ci := 5) (cutLW_X5_0_1_2_3_4_5_6 _ _ _ _ _ _ _ _ _ _ _ st0 st0 st0 st0 st0 st0 st0) hP hD hK hG rfl (gX5_0 _ _ _ _ _ _ _ _ _ _)) rfl rfl hl.1 rfl (lv_room (Nat.le_of_ble_eq_true rfl)) dL_areAll_420 ⟨by show _ ≤ 8; omega, by show _ ≤ 48; omega⟩) (cutLW_X5_0_1_2_3_4_5_6 _ _ _ _ _ _ _ _ _ _ _ _ _ _ _ _ _ _) hP hD hS hA (fun H locs hP hD hS => ?_)
                  refine lv_if_ge (tgt := 453) hx hb dL_areAll_423 (by decide) (fun c423 => ?_) (fun c423 => ?_)
                  · have hf := if_t c423 hf
                    refine lv_iconst (v := 1) hx hb dL_areAll_453 (by decide) ?_
                    refine lv_goto (tgt := 458) hx hb dL_areAll_454 (by decide) ?_
                    refine W.widen (k := c1 + 0) (n := s1 + 0) (by omega) (by omega) ?_
                    exact B458 _ _ _ _ c1 s1 hcb hsb k242 hk242 hf H locs hP hD hS ls (lv_sub hl [1, 2, 3, 4, 5, 7, 8] rfl)
                  · have hf := if_f c423 hf
                    refine lv_iload hx hb dL_areAll_426 (lv_at hl 0 rfl) ?_
                    refine lv_iload hx hb dL_areAll_428 (lv_at hl 8 rfl) ?_
                    refine lv_icmp_ne (tgt := 457) hx hb dL_areAll_430 (by decide) (fun c430 => ?_) (fun c430 => ?_)
                    · have hf := if_f c430 hf
                      refine W.widen (k := c1 + 0) (n := s1 + 0) (by omega) (by omega) ?_
                      exact B457 _ _ _ c1 s1 hcb hsb k242 hk242 hf H locs hP hD hS ls (lv_sub hl [1, 2, 3, 4, 5, 7, 8] rfl)
                    · have hf := if_t c430 hf
                      refine lv_aload_n hx hb dL_areAll_433 rfl (lv_at hl 1 rfl) ?_
                      refine lv_iload hx hb dL_areAll_434 (lv_at hl 8 rfl) ?_
                      refine lv_iconst (v := 1) hx hb dL_areAll_436 (by decide) ?_
                      obtain ⟨q437, h437, hf⟩ := bn_t hf
                      refine cl_i (va_runV (As := [.int x8, .int 1]) (rest := []) S (mX5_holds l D cI cZ (aLW_X5_0_1_2_3_4_5_6 A) cs cw ct cu cl cb cp x8 1 H.size q437 h437) (cwV 2 hts gL_areAll_X5_holds rfl rfl rfl (by decide +kernel) ⟨Nat.le_of_ble_eq_true rfl, Nat.le_of_ble_eq_true rfl⟩) (mP_V (ci := 5) (cutLW_X5_0_1_2_3_4_5_6 _ _ _ _ _ _ _ _ _ _ _ st0 st0 st0 st0 st0 st0 st0) hP hD hK hG rfl (gX5_0 _ _ _ _ _ _ _ _ _ _)) rfl rfl hl.1 rfl (lv_room (Nat.le_of_ble_eq_true rfl)) dL_areAll_437 ⟨by show _ ≤ 8; omega, by show _ ≤ 48; omega⟩) (cutLW_X5_0_1_2_3_4_5_6 _ _ _ _ _ _ _ _ _ _ _ _ _ _ _ _ _ _) hP hD hS hA (fun H locs hP hD hS => ?_)
                      refine lv_if_ne (tgt := 457) hx hb dL_areAll_440 (by decide) (fun c440 => ?_) (fun c440 => ?_)
                      · have hf := if_f c440 hf
                        refine W.widen (k := c1 + 0) (n := s1 + 0) (by omega) (by omega) ?_
                        exact B457 _ _ _ c1 s1 hcb hsb k242 hk242 hf H locs hP hD hS ls (lv_sub hl [1, 2, 3, 4, 5, 7, 8] rfl)
                      · have hf := if_t c440 hf
                        refine lv_aload_n hx hb dL_areAll_443 rfl (lv_at hl 1 rfl) ?_
                        refine lv_iload hx hb dL_areAll_444 (lv_at hl 8 rfl) ?_
                        refine lv_iconst (v := 2) hx hb dL_areAll_446 (by decide) ?_
                        obtain ⟨q447, h447, hf⟩ := bn_t hf
                        refine cl_i (va_runV (As := [.int x8, .int 2]) (rest := []) S (mX5_holds l D cI cZ (aLW_X5_0_1_2_3_4_5_6 A) cs cw ct cu cl cb cp x8 2 H.size q447 h447) (cwV 2 hts gL_areAll_X5_holds rfl rfl rfl (by decide +kernel) ⟨Nat.le_of_ble_eq_true rfl, Nat.le_of_ble_eq_true rfl⟩) (mP_V (ci := 5) (cutLW_X5_0_1_2_3_4_5_6 _ _ _ _ _ _ _ _ _ _ _ st0 st0 st0 st0 st0 st0 st0) hP hD hK hG rfl (gX5_0 _ _ _ _ _ _ _ _ _ _)) rfl rfl hl.1 rfl (lv_room (Nat.le_of_ble_eq_true rfl)) dL_areAll_447 ⟨by show _ ≤ 8; omega, by show _ ≤ 48; omega⟩) (cutLW_X5_0_1_2_3_4_5_6 _ _ _ _ _ _ _ _ _ _ _ _ _ _ _ _ _ _) hP hD hS hA (fun H locs hP hD hS => ?_)
                        refine lv_if_ne (tgt := 457) hx hb dL_areAll_450 (by decide) (fun c450 => ?_) (fun c450 => ?_)
                        · have hf := if_f c450 hf
                          refine W.widen (k := c1 + 0) (n := s1 + 0) (by omega) (by omega) ?_
                          exact B457 _ _ _ c1 s1 hcb hsb k242 hk242 hf H locs hP hD hS ls (lv_sub hl [1, 2, 3, 4, 5, 7, 8] rfl)
                        · have hf := if_t c450 hf
                          refine lv_iconst (v := 1) hx hb dL_areAll_453 (by decide) ?_
                          refine lv_goto (tgt := 458) hx hb dL_areAll_454 (by decide) ?_
                          refine W.widen (k := c1 + 0) (n := s1 + 0) (by omega) (by omega) ?_
                          exact B458 _ _ _ _ c1 s1 hcb hsb k242 hk242 hf H locs hP hD hS ls (lv_sub hl [1, 2, 3, 4, 5, 7, 8] rfl)
  have B304 : ∀ (ct : St) (x7 : Int32) (x8 : Int32) (x10 : Int32) (x11 : Int32) (y0 : Int32) (y1 : Int32) (c1 s1 : Nat) (hcb : c1 + 1 ≤ 8) (hsb : s1 + 6 ≤ 48) (k242 : (St × Int32 × Int32) → Option (Int32 × St)) (hk242 : ∀ a242, k242 a242 = some res → Bk p l e ({ frames := 11, cells := 8, slots := 48, locals := 211 }) s m args below meth c Q A0 D 14 (c1 + 1) (s1 + 6) (wLW cI cZ A cs cw (a242.1) cu cl cb cp cg) [(0, .ref (A 0)), (1, .ref (A 53)), (2, .ref (A 54)), (4, .ref (A 56)), (5, .ref (A 57)), (6, .int (a242.2.1)), (7, .int x7), (8, .int (a242.2.2))] 242 []) (k260 : (Int32 × Int32 × Int32) → Option (Int32 × St)) (hk260 : ∀ a260, k260 a260 = some res → Bk p l e ({ frames := 11, cells := 8, slots := 48, locals := 211 }) s m args below meth c Q A0 D 14 (c1 + 0) (s1 + 0) (wLW cI cZ A cs cw ct cu cl cb cp cg) [(0, .ref (A 0)), (1, .ref (A 53)), (2, .ref (A 54)), (4, .ref (A 56)), (5, .ref (A 57)), (6, .int (a260.1)), (7, .int x7), (8, .int x8), (9, .int (a260.2.1)), (10, .int (a260.2.2))] 260 []), fL_areAll_J304 k242 k260 cs cw ct cb cg x7 x8 x10 x11 y0 y1 = some res → Bk p l e ({ frames := 11, cells := 8, slots := 48, locals := 211 }) s m args below meth c Q A0 D 14 (c1 + 0) (s1 + 0) (wLW cI cZ A cs cw ct cu cl cb cp cg) [(0, .ref (A 0)), (1, .ref (A 53)), (2, .ref (A 54)), (4, .ref (A 56)), (5, .ref (A 57)), (7, .int x7), (8, .int x8), (10, .int x10), (11, .int x11)] 304 [.int y0, .int y1] := by
    intro ct x7 x8 x10 x11 y0 y1 c1 s1 hcb hsb k242 hk242 k260 hk260 hf
    unfold fL_areAll_J304 at hf
    intro H locs hP hD hS ls hl
    refine lv_iadd hx hb dL_areAll_304 ?_
    refine lv_istore (lv' := [(9, .int (y1 + y0)), (0, .ref (A 0)), (1, .ref (A 53)), (2, .ref (A 54)), (4, .ref (A 56)), (5, .ref (A 57)), (7, .int x7), (8, .int x8), (10, .int x10), (11, .int x11)]) hx hb dL_areAll_305 hl (by decide) rfl (fun ls hl => ?_)
    refine lv_iload hx hb dL_areAll_307 (lv_at hl 9 rfl) ?_
    refine lv_if_lt (tgt := 336) hx hb dL_areAll_309 (by decide) (fun c309 => ?_) (fun c309 => ?_)
    · have hf := if_t c309 hf
      refine lv_iconst (v := 1) hx hb dL_areAll_336 (by decide) ?_
      refine lv_goto (tgt := 341) hx hb dL_areAll_337 (by decide) ?_
      refine lv_istore (lv' := [(6, .int 1), (9, .int (y1 + y0)), (0, .ref (A 0)), (1, .ref (A 53)), (2, .ref (A 54)), (4, .ref (A 56)), (5, .ref (A 57)), (7, .int x7), (8, .int x8), (10, .int x10), (11, .int x11)]) hx hb dL_areAll_341 hl (by decide) rfl (fun ls hl => ?_)
      refine lv_iinc (v := x10 + 1) (lv' := [(10, .int (x10 + 1)), (6, .int 1), (9, .int (y1 + y0)), (0, .ref (A 0)), (1, .ref (A 53)), (2, .ref (A 54)), (4, .ref (A 56)), (5, .ref (A 57)), (7, .int x7), (8, .int x8), (11, .int x11)]) hx hb dL_areAll_343 hl (k := 9) rfl rfl (by decide) rfl (fun ls hl => ?_)
      refine lv_goto (tgt := 260) hx hb dL_areAll_346 (by decide) ?_
      refine W.widen (k := c1 + 0) (n := s1 + 0) (by omega) (by omega) ?_
      exact hk260 _ hf H locs hP hD hS ls (lv_sub hl [3, 4, 5, 6, 7, 1, 8, 9, 2, 0] rfl)
    · have hf := if_f c309 hf
      refine lv_aload_n hx hb dL_areAll_312 rfl (lv_at hl 2 rfl) ?_
      refine lv_iconst (v := 5) hx hb dL_areAll_313 (by decide) ?_
      refine lv_iload hx hb dL_areAll_314 (lv_at hl 7 rfl) ?_
      refine lv_imul hx hb dL_areAll_316 ?_
      refine lv_iload hx hb dL_areAll_317 (lv_at hl 9 rfl) ?_
      refine lv_iadd hx hb dL_areAll_319 ?_
      obtain ⟨c320, hf⟩ := ck_t hf
      refine va_iald (f := cg 0) hx hb hK hP 53 0 (gLW_53 _ _ _ _ _ _ _ _ _ _ _) rfl (inb_in c320) dL_areAll_320 ?_
      refine lv_if_lt (tgt := 340) hx hb dL_areAll_321 (by decide) (fun c321 => ?_) (fun c321 => ?_)
      · have hf := if_t c321 hf
        refine lv_iconst (v := 0) hx hb dL_areAll_340 (by decide) ?_
        refine lv_istore (lv' := [(6, .int 0), (9, .int (y1 + y0)), (0, .ref (A 0)), (1, .ref (A 53)), (2, .ref (A 54)), (4, .ref (A 56)), (5, .ref (A 57)), (7, .int x7), (8, .int x8), (10, .int x10), (11, .int x11)]) hx hb dL_areAll_341 hl (by decide) rfl (fun ls hl => ?_)
        refine lv_iinc (v := x10 + 1) (lv' := [(10, .int (x10 + 1)), (6, .int 0), (9, .int (y1 + y0)), (0, .ref (A 0)), (1, .ref (A 53)), (2, .ref (A 54)), (4, .ref (A 56)), (5, .ref (A 57)), (7, .int x7), (8, .int x8), (11, .int x11)]) hx hb dL_areAll_343 hl (k := 9) rfl rfl (by decide) rfl (fun ls hl => ?_)
        refine lv_goto (tgt := 260) hx hb dL_areAll_346 (by decide) ?_
        refine W.widen (k := c1 + 0) (n := s1 + 0) (by omega) (by omega) ?_
        exact hk260 _ hf H locs hP hD hS ls (lv_sub hl [3, 4, 5, 6, 7, 1, 8, 9, 2, 0] rfl)
      · have hf := if_f c321 hf
        refine lv_aload_n hx hb dL_areAll_324 rfl (lv_at hl 1 rfl) ?_
        refine lv_iload hx hb dL_areAll_325 (lv_at hl 7 rfl) ?_
        refine lv_iload hx hb dL_areAll_327 (lv_at hl 9 rfl) ?_
        refine lv_iconst (v := 2) hx hb dL_areAll_329 (by decide) ?_
        obtain ⟨q330, h330, hf⟩ := bn_t hf
        refine cl_i (va_runV (As := [.int x8, .int x11, .int 2]) (rest := []) S (mX5_port l D cI cZ (aLW_X5_0_1_2_3_4_5_6 A) cs cw ct cu cl cb cp x8 x11 2 H.size q330 h330) (cwV 3 hts gL_areAll_X5_port rfl rfl rfl (by decide +kernel) ⟨Nat.le_of_ble_eq_true rfl, Nat.le_of_ble_eq_true rfl⟩) (mP_V (ci := 5) (cutLW_X5_0_1_2_3_4_5_6 _ _ _ _ _ _ _ _ _ _ _ st0 st0 st0 st0 st0 st0 st0) hP hD hK hG rfl (gX5_0 _ _ _ _ _ _ _ _ _ _)) rfl rfl hl.1 rfl (lv_room (Nat.le_of_ble_eq_true rfl)) dL_areAll_330 ⟨by show _ ≤ 8; omega, by show _ ≤ 48; omega⟩) (cutLW_X5_0_1_2_3_4_5_6 _ _ _ _ _ _ _ _ _ _ _ _ _ _ _ _ _ _) hP hD hS hA (fun H locs hP hD hS => ?_)
        refine lv_if_ne (tgt := 340) hx hb dL_areAll_333 (by decide) (fun c333 => ?_) (fun c333 => ?_)
        · have hf := if_f c333 hf
          refine lv_iconst (v := 0) hx hb dL_areAll_340 (by decide) ?_
          refine lv_istore (lv' := [(6, .int 0), (9, .int (y1 + y0)), (0, .ref (A 0)), (1, .ref (A 53)), (2, .ref (A 54)), (4, .ref (A 56)), (5, .ref (A 57)), (7, .int x7), (8, .int x8), (10, .int x10), (11, .int x11)]) hx hb dL_areAll_341 hl (by decide) rfl (fun ls hl => ?_)
          refine lv_iinc (v := x10 + 1) (lv' := [(10, .int (x10 + 1)), (6, .int 0), (9, .int (y1 + y0)), (0, .ref (A 0)), (1, .ref (A 53)), (2, .ref (A 54)), (4, .ref (A 56)), (5, .ref (A 57)), (7, .int x7), (8, .int x8), (11, .int x11)]) hx hb dL_areAll_343 hl (k := 9) rfl rfl (by decide) rfl (fun ls hl => ?_)
          refine lv_goto (tgt := 260) hx hb dL_areAll_346 (by decide) ?_
          refine W.widen (k := c1 + 0) (n := s1 + 0) (by omega) (by omega) ?_
          exact hk260 _ hf H locs hP hD hS ls (lv_sub hl [3, 4, 5, 6, 7, 1, 8, 9, 2, 0] rfl)
        · have hf := if_t c333 hf
          refine lv_iconst (v := 1) hx hb dL_areAll_336 (by decide) ?_
          refine lv_goto (tgt := 341) hx hb dL_areAll_337 (by decide) ?_
          refine lv_istore (lv' := [(6, .int 1), (9, .int (y1 + y0)), (0, .ref (A 0)), (1, .ref (A 53)), (2, .ref (A 54)), (4, .ref (A 56)), (5, .ref (A 57)), (7, .int x7), (8, .int x8), (10, .int x10), (11, .int x11)]) hx hb dL_areAll_341 hl (by decide) rfl (fun ls hl => ?_)
          refine lv_iinc (v := x10 + 1) (lv' := [(10, .int (x10 + 1)), (6, .int 1), (9, .int (y1 + y0)), (0, .ref (A 0)), (1, .ref (A 53)), (2, .ref (A 54)), (4, .ref (A 56)), (5, .ref (A 57)), (7, .int x7), (8, .int x8), (11, .int x11)]) hx hb dL_areAll_343 hl (k := 9) rfl rfl (by decide) rfl (fun ls hl => ?_)
          refine lv_goto (tgt := 260) hx hb dL_areAll_346 (by decide) ?_
          refine W.widen (k := c1 + 0) (n := s1 + 0) (by omega) (by omega) ?_
          exact hk260 _ hf H locs hP hD hS ls (lv_sub hl [3, 4, 5, 6, 7, 1, 8, 9, 2, 0] rfl)
  have B260 : ∀ (ct : St) (x7 : Int32) (x8 : Int32) (c1 s1 : Nat) (hcb : c1 + 1 ≤ 8) (hsb : s1 + 6 ≤ 48) (k242 : (St × Int32 × Int32) → Option (Int32 × St)) (hk242 : ∀ a242, k242 a242 = some res → Bk p l e ({ frames := 11, cells := 8, slots := 48, locals := 211 }) s m args below meth c Q A0 D 14 (c1 + 1) (s1 + 6) (wLW cI cZ A cs cw (a242.1) cu cl cb cp cg) [(0, .ref (A 0)), (1, .ref (A 53)), (2, .ref (A 54)), (4, .ref (A 56)), (5, .ref (A 57)), (6, .int (a242.2.1)), (7, .int x7), (8, .int (a242.2.2))] 242 []) (x6 : Int32) (x9 : Int32) (x10 : Int32), fL_areAll_L260 k242 cs cw ct cb cg x7 x8 x6 x9 x10 = some res → Bk p l e ({ frames := 11, cells := 8, slots := 48, locals := 211 }) s m args below meth c Q A0 D 14 (c1 + 0) (s1 + 0) (wLW cI cZ A cs cw ct cu cl cb cp cg) [(0, .ref (A 0)), (1, .ref (A 53)), (2, .ref (A 54)), (4, .ref (A 56)), (5, .ref (A 57)), (6, .int x6), (7, .int x7), (8, .int x8), (9, .int x9), (10, .int x10)] 260 [] := by
    intro ct x7 x8 c1 s1 hcb hsb k242 hk242 x6 x9 x10 hf
    refine loop_ind (step := (fun k a => fL_areAll_S260 k242 k cs cw ct cb cg x7 x8 (a.1) (a.2.1) (a.2.2))) (fun a => Bk p l e ({ frames := 11, cells := 8, slots := 48, locals := 211 }) s m args below meth c Q A0 D 14 (c1 + 0) (s1 + 0) (wLW cI cZ A cs cw ct cu cl cb cp cg) [(0, .ref (A 0)), (1, .ref (A 53)), (2, .ref (A 54)), (4, .ref (A 56)), (5, .ref (A 57)), (6, .int (a.1)), (7, .int x7), (8, .int x8), (9, .int (a.2.1)), (10, .int (a.2.2))] 260 []) ?_ _ _ hf
    clear hf
    intro k260 hk260 a hf
    obtain ⟨x6_, x9_, x10_⟩ := a
    clear x6 x9 x10
    obtain ⟨x6, e_⟩ : ∃ z, z = x6_ := ⟨_, rfl⟩
    subst e_
    obtain ⟨x9, e_⟩ : ∃ z, z = x9_ := ⟨_, rfl⟩
    subst e_
    obtain ⟨x10, e_⟩ : ∃ z, z = x10_ := ⟨_, rfl⟩
    subst e_
    have hf : fL_areAll_S260 k242 k260 cs cw ct cb cg x7 x8 x6 x9 x10 = some res := hf
    show Bk p l e ({ frames := 11, cells := 8, slots := 48, locals := 211 }) s m args below meth c Q A0 D 14 (c1 + 0) (s1 + 0) (wLW cI cZ A cs cw ct cu cl cb cp cg) [(0, .ref (A 0)), (1, .ref (A 53)), (2, .ref (A 54)), (4, .ref (A 56)), (5, .ref (A 57)), (6, .int x6), (7, .int x7), (8, .int x8), (9, .int x9), (10, .int x10)] 260 []
    unfold fL_areAll_S260 at hf
    intro H locs hP hD hS ls hl
    refine lv_iload hx hb dL_areAll_260 (lv_at hl 9 rfl) ?_
    refine lv_bipush (v := 30) hx hb dL_areAll_262 (by decide) ?_
    refine lv_icmp_ge (tgt := 349) hx hb dL_areAll_264 (by decide) (fun c264 => ?_) (fun c264 => ?_)
    · have hf := if_t c264 hf
      refine W.widen (k := c1 + 0) (n := s1 + 0) (by omega) (by omega) ?_
      exact B349 _ _ _ _ _ c1 s1 hcb hsb k242 hk242 hf H locs hP hD hS ls (lv_sub hl [0, 1, 2, 3, 4, 5, 6, 7, 8] rfl)
    · have hf := if_f c264 hf
      refine lv_iload hx hb dL_areAll_267 (lv_at hl 5 rfl) ?_
      refine lv_if_eq (tgt := 349) hx hb dL_areAll_269 (by decide) (fun c269 => ?_) (fun c269 => ?_)
      · have hf := if_t c269 hf
        refine W.widen (k := c1 + 0) (n := s1 + 0) (by omega) (by omega) ?_
        exact B349 _ _ _ _ _ c1 s1 hcb hsb k242 hk242 hf H locs hP hD hS ls (lv_sub hl [0, 1, 2, 3, 4, 5, 6, 7, 8] rfl)
      · have hf := if_f c269 hf
        refine lv_aload_n hx hb dL_areAll_272 rfl (lv_at hl 0 rfl) ?_
        refine lv_iload hx hb dL_areAll_273 (lv_at hl 7 rfl) ?_
        refine lv_iconst (v := 1) hx hb dL_areAll_275 (by decide) ?_
        refine lv_iload hx hb dL_areAll_276 (lv_at hl 9 rfl) ?_
        refine lv_bipush (v := 10) hx hb dL_areAll_278 (by decide) ?_
        refine lv_idiv hx hb dL_areAll_280 (by decide) ?_
        refine lv_iadd hx hb dL_areAll_281 ?_
        refine lv_iload hx hb dL_areAll_282 (lv_at hl 9 rfl) ?_
        refine lv_bipush (v := 10) hx hb dL_areAll_284 (by decide) ?_
        refine lv_irem hx hb dL_areAll_286 (by decide) ?_
        obtain ⟨q287, h287, hf⟩ := bn_t hf
        refine cl_i (va_runV (As := [.int x8, .int (1 + (x10 / 10)), .int (x10 - x10 / 10 * 10)]) (rest := []) S (mX5_table l D cI cZ (aLW_X5_0_1_2_3_4_5_6 A) cs cw ct cu cl cb cp x8 (1 + (x10 / 10)) (x10 - x10 / 10 * 10) H.size q287 h287) (cwV 3 hts gL_areAll_X5_table rfl rfl rfl (by decide +kernel) ⟨Nat.le_of_ble_eq_true rfl, Nat.le_of_ble_eq_true rfl⟩) (mP_V (ci := 5) (cutLW_X5_0_1_2_3_4_5_6 _ _ _ _ _ _ _ _ _ _ _ st0 st0 st0 st0 st0 st0 st0) hP hD hK hG rfl (gX5_0 _ _ _ _ _ _ _ _ _ _)) rfl rfl hl.1 rfl (lv_room (Nat.le_of_ble_eq_true rfl)) dL_areAll_287 ⟨by show _ ≤ 8; omega, by show _ ≤ 48; omega⟩) (cutLW_X5_0_1_2_3_4_5_6 _ _ _ _ _ _ _ _ _ _ _ _ _ _ _ _ _ _) hP hD hS hA (fun H locs hP hD hS => ?_)
        refine lv_istore (lv' := [(11, .int q287), (0, .ref (A 0)), (1, .ref (A 53)), (2, .ref (A 54)), (4, .ref (A 56)), (5, .ref (A 57)), (6, .int x6), (7, .int x7), (8, .int x8), (9, .int x9), (10, .int x10)]) hx hb dL_areAll_290 hl (by decide) rfl (fun ls hl => ?_)
        refine lv_iload hx hb dL_areAll_292 (lv_at hl 9 rfl) ?_
        refine lv_iload hx hb dL_areAll_294 (lv_at hl 0 rfl) ?_
        refine lv_if_lt (tgt := 303) hx hb dL_areAll_296 (by decide) (fun c296 => ?_) (fun c296 => ?_)
        · have hf := if_t c296 hf
          refine lv_iconst (v := 0) hx hb dL_areAll_303 (by decide) ?_
          refine W.widen (k := c1 + 0) (n := s1 + 0) (by omega) (by omega) ?_
          exact B304 _ _ _ _ _ _ _ c1 s1 hcb hsb k242 hk242 k260 hk260 hf H locs hP hD hS ls (lv_sub hl [1, 2, 3, 4, 5, 7, 8, 10, 0] rfl)
        · have hf := if_f c296 hf
          refine lv_iconst (v := 1) hx hb dL_areAll_299 (by decide) ?_
          refine lv_goto (tgt := 304) hx hb dL_areAll_300 (by decide) ?_
          refine W.widen (k := c1 + 0) (n := s1 + 0) (by omega) (by omega) ?_
          exact B304 _ _ _ _ _ _ _ c1 s1 hcb hsb k242 hk242 k260 hk260 hf H locs hP hD hS ls (lv_sub hl [1, 2, 3, 4, 5, 7, 8, 10, 0] rfl)
  have B242 : ∀ (x7 : Int32) (ct : St) (x6 : Int32) (x8 : Int32), fL_areAll_L242 cs cw cb cg x7 ct x6 x8 = some res → Bk p l e ({ frames := 11, cells := 8, slots := 48, locals := 211 }) s m args below meth c Q A0 D 14 0 0 (wLW cI cZ A cs cw ct cu cl cb cp cg) [(0, .ref (A 0)), (1, .ref (A 53)), (2, .ref (A 54)), (4, .ref (A 56)), (5, .ref (A 57)), (6, .int x6), (7, .int x7), (8, .int x8)] 242 [] := by
    intro x7 ct x6 x8 hf
    refine loop_indF (step := (fun k a => fL_areAll_S242 k cs cw cb cg x7 (a.1) (a.2.1) (a.2.2))) (res := res) 8 (fun n a => ∀ c1 s1 : Nat, c1 = 0 + (8 - n) * 1 → s1 = 0 + (8 - n) * 6 → Bk p l e ({ frames := 11, cells := 8, slots := 48, locals := 211 }) s m args below meth c Q A0 D 14 c1 s1 (wLW cI cZ A cs cw (a.1) cu cl cb cp cg) [(0, .ref (A 0)), (1, .ref (A 53)), (2, .ref (A 54)), (4, .ref (A 56)), (5, .ref (A 57)), (6, .int (a.2.1)), (7, .int x7), (8, .int (a.2.2))] 242 []) ?_ 8 (Nat.le_refl _) _ hf 0 0 (by decide) (by decide)
    clear hf
    intro n9 hn9 k242 hk242 a hf
    obtain ⟨ct_, x6_, x8_⟩ := a
    clear ct x6 x8
    obtain ⟨ct, e_⟩ : ∃ z, z = ct_ := ⟨_, rfl⟩
    subst e_
    obtain ⟨x6, e_⟩ : ∃ z, z = x6_ := ⟨_, rfl⟩
    subst e_
    obtain ⟨x8, e_⟩ : ∃ z, z = x8_ := ⟨_, rfl⟩
    subst e_
    have hf : fL_areAll_S242 k242 cs cw cb cg x7 ct x6 x8 = some res := hf
    intro c1 s1 ec1 es1
    have hcb : c1 + 1 ≤ 8 := by omega
    have hsb : s1 + 6 ≤ 48 := by omega
    have hk242 : ∀ a242, k242 a242 = some res → Bk p l e ({ frames := 11, cells := 8, slots := 48, locals := 211 }) s m args below meth c Q A0 D 14 (c1 + 1) (s1 + 6) (wLW cI cZ A cs cw (a242.1) cu cl cb cp cg) [(0, .ref (A 0)), (1, .ref (A 53)), (2, .ref (A 54)), (4, .ref (A 56)), (5, .ref (A 57)), (6, .int (a242.2.1)), (7, .int x7), (8, .int (a242.2.2))] 242 [] := fun a h9 => hk242 a h9 (c1 + 1) (s1 + 6) (by omega) (by omega)
    show Bk p l e ({ frames := 11, cells := 8, slots := 48, locals := 211 }) s m args below meth c Q A0 D 14 c1 s1 (wLW cI cZ A cs cw ct cu cl cb cp cg) [(0, .ref (A 0)), (1, .ref (A 53)), (2, .ref (A 54)), (4, .ref (A 56)), (5, .ref (A 57)), (6, .int x6), (7, .int x7), (8, .int x8)] 242 []
    unfold fL_areAll_S242 at hf
    intro H locs hP hD hS ls hl
    refine lv_iload hx hb dL_areAll_242 (lv_at hl 7 rfl) ?_
    refine lv_bipush (v := 6) hx hb dL_areAll_244 (by decide) ?_
    refine lv_icmp_ge (tgt := 497) hx hb dL_areAll_246 (by decide) (fun c246 => ?_) (fun c246 => ?_)
    · have hf := if_t c246 hf
      refine W.widen (k := 8) (n := 48) (by omega) (by omega) ?_
      exact B497 _ _ _ hf H locs hP hD hS ls (lv_sub hl [0, 4, 5, 6] rfl)
    · have hf := if_f c246 hf
      refine lv_iload hx hb dL_areAll_249 (lv_at hl 5 rfl) ?_
      refine lv_if_eq (tgt := 497) hx hb dL_areAll_251 (by decide) (fun c251 => ?_) (fun c251 => ?_)
      · have hf := if_t c251 hf
        refine W.widen (k := 8) (n := 48) (by omega) (by omega) ?_
        exact B497 _ _ _ hf H locs hP hD hS ls (lv_sub hl [0, 4, 5, 6] rfl)
      · have hf := if_f c251 hf
        refine lv_iconst (v := 0) hx hb dL_areAll_254 (by decide) ?_
        refine lv_istore (lv' := [(9, .int 0), (0, .ref (A 0)), (1, .ref (A 53)), (2, .ref (A 54)), (4, .ref (A 56)), (5, .ref (A 57)), (6, .int x6), (7, .int x7), (8, .int x8)]) hx hb dL_areAll_255 hl (by decide) rfl (fun ls hl => ?_)
        refine lv_iconst (v := 0) hx hb dL_areAll_257 (by decide) ?_
        refine lv_istore (lv' := [(10, .int 0), (9, .int 0), (0, .ref (A 0)), (1, .ref (A 53)), (2, .ref (A 54)), (4, .ref (A 56)), (5, .ref (A 57)), (6, .int x6), (7, .int x7), (8, .int x8)]) hx hb dL_areAll_258 hl (by decide) rfl (fun ls hl => ?_)
        refine W.widen (k := c1 + 0) (n := s1 + 0) (by omega) (by omega) ?_
        exact B260 _ _ _ c1 s1 hcb hsb k242 hk242 _ _ _ hf H locs hP hD hS ls (lv_sub hl [2, 3, 4, 5, 6, 7, 8, 9, 1, 0] rfl)
  have B239 : ∀ (ct : St) (x6 : Int32) (x7 : Int32), fL_areAll_J239 cs cw ct cb cg x6 x7 = some res → Bk p l e ({ frames := 11, cells := 8, slots := 48, locals := 211 }) s m args below meth c Q A0 D 14 0 0 (wLW cI cZ A cs cw ct cu cl cb cp cg) [(0, .ref (A 0)), (1, .ref (A 53)), (2, .ref (A 54)), (4, .ref (A 56)), (5, .ref (A 57)), (6, .int x6), (7, .int x7)] 239 [] := by
    intro ct x6 x7 hf
    unfold fL_areAll_J239 at hf
    intro H locs hP hD hS ls hl
    refine lv_iconst (v := 0) hx hb dL_areAll_239 (by decide) ?_
    refine lv_istore (lv' := [(8, .int 0), (0, .ref (A 0)), (1, .ref (A 53)), (2, .ref (A 54)), (4, .ref (A 56)), (5, .ref (A 57)), (6, .int x6), (7, .int x7)]) hx hb dL_areAll_240 hl (by decide) rfl (fun ls hl => ?_)
    refine W.widen (k := 0) (n := 0) (by omega) (by omega) ?_
    exact B242 _ _ _ _ hf H locs hP hD hS ls (lv_sub hl [1, 2, 3, 4, 5, 6, 7, 0] rfl)
  have B195 : ∀ (ct : St) (x7 : Int32) (x8 : Int32) (x9 : Int32) (k9 : (Int32 × Int32) → Option (Int32 × St)) (hk9 : ∀ a9, k9 a9 = some res → Bk p l e ({ frames := 11, cells := 8, slots := 48, locals := 211 }) s m args below meth c Q A0 D 14 0 0 (wLW cI cZ A cs cw ct cu cl cb cp cg) [(0, .ref (A 0)), (1, .ref (A 53)), (2, .ref (A 54)), (4, .ref (A 56)), (5, .ref (A 57)), (6, .int (a9.1)), (7, .int x7), (8, .int (a9.2))] 9 []), fL_areAll_J195 k9 cs cw ct cb cg x7 x8 x9 = some res → Bk p l e ({ frames := 11, cells := 8, slots := 48, locals := 211 }) s m args below meth c Q A0 D 14 0 0 (wLW cI cZ A cs cw ct cu cl cb cp cg) [(0, .ref (A 0)), (1, .ref (A 53)), (2, .ref (A 54)), (4, .ref (A 56)), (5, .ref (A 57)), (7, .int x7), (8, .int x8), (9, .int x9)] 195 [] := by
    intro ct x7 x8 x9 k9 hk9 hf
    unfold fL_areAll_J195 at hf
    intro H locs hP hD hS ls hl
    refine lv_aload_n hx hb dL_areAll_195 rfl (lv_at hl 0 rfl) ?_
    refine lv_iload hx hb dL_areAll_196 (lv_at hl 7 rfl) ?_
    refine lv_iload hx hb dL_areAll_198 (lv_at hl 6 rfl) ?_
    refine lv_iconst (v := 5) hx hb dL_areAll_200 (by decide) ?_
    refine lv_irem hx hb dL_areAll_201 (by decide) ?_
    refine lv_iconst (v := 3) hx hb dL_areAll_202 (by decide) ?_
    obtain ⟨q203, h203, hf⟩ := bn_t hf
    refine cl_i (va_runV (As := [.int x9, .int (x8 - x8 / 5 * 5), .int 3]) (rest := []) S (mX5_port l D cI cZ (aLW_X5_0_1_2_3_4_5_6 A) cs cw ct cu cl cb cp x9 (x8 - x8 / 5 * 5) 3 H.size q203 h203) (cwV 3 hts gL_areAll_X5_port rfl rfl rfl (by decide +kernel) ⟨Nat.le_of_ble_eq_true rfl, Nat.le_of_ble_eq_true rfl⟩) (mP_V (ci := 5) (cutLW_X5_0_1_2_3_4_5_6 _ _ _ _ _ _ _ _ _ _ _ st0 st0 st0 st0 st0 st0 st0) hP hD hK hG rfl (gX5_0 _ _ _ _ _ _ _ _ _ _)) rfl rfl hl.1 rfl (lv_room (Nat.le_of_ble_eq_true rfl)) dL_areAll_203 ⟨by show _ ≤ 8; omega, by show _ ≤ 48; omega⟩) (cutLW_X5_0_1_2_3_4_5_6 _ _ _ _ _ _ _ _ _ _ _ _ _ _ _ _ _ _) hP hD hS hA (fun H locs hP hD hS => ?_)
    refine lv_if_lt (tgt := 230) hx hb dL_areAll_206 (by decide) (fun c206 => ?_) (fun c206 => ?_)
    · have hf := if_t c206 hf
      refine lv_iconst (v := 0) hx hb dL_areAll_230 (by decide) ?_
      refine lv_istore (lv' := [(6, .int 0), (0, .ref (A 0)), (1, .ref (A 53)), (2, .ref (A 54)), (4, .ref (A 56)), (5, .ref (A 57)), (7, .int x7), (8, .int x8), (9, .int x9)]) hx hb dL_areAll_231 hl (by decide) rfl (fun ls hl => ?_)
      refine lv_iinc (v := x8 + 1) (lv' := [(8, .int (x8 + 1)), (6, .int 0), (0, .ref (A 0)), (1, .ref (A 53)), (2, .ref (A 54)), (4, .ref (A 56)), (5, .ref (A 57)), (7, .int x7), (9, .int x9)]) hx hb dL_areAll_233 hl (k := 7) rfl rfl (by decide) rfl (fun ls hl => ?_)
      refine lv_goto (tgt := 9) hx hb dL_areAll_236 (by decide) ?_
      refine W.widen (k := 0) (n := 0) (by omega) (by omega) ?_
      exact hk9 _ hf H locs hP hD hS ls (lv_sub hl [2, 3, 4, 5, 6, 1, 7, 0] rfl)
    · have hf := if_f c206 hf
      refine lv_aload_n hx hb dL_areAll_209 rfl (lv_at hl 0 rfl) ?_
      refine lv_iload hx hb dL_areAll_210 (lv_at hl 7 rfl) ?_
      refine lv_iload hx hb dL_areAll_212 (lv_at hl 6 rfl) ?_
      refine lv_iconst (v := 5) hx hb dL_areAll_214 (by decide) ?_
      refine lv_irem hx hb dL_areAll_215 (by decide) ?_
      refine lv_iconst (v := 3) hx hb dL_areAll_216 (by decide) ?_
      obtain ⟨q217, h217, hf⟩ := bn_t hf
      refine cl_i (va_runV (As := [.int x9, .int (x8 - x8 / 5 * 5), .int 3]) (rest := []) S (mX5_port l D cI cZ (aLW_X5_0_1_2_3_4_5_6 A) cs cw ct cu cl cb cp x9 (x8 - x8 / 5 * 5) 3 H.size q217 h217) (cwV 3 hts gL_areAll_X5_port rfl rfl rfl (by decide +kernel) ⟨Nat.le_of_ble_eq_true rfl, Nat.le_of_ble_eq_true rfl⟩) (mP_V (ci := 5) (cutLW_X5_0_1_2_3_4_5_6 _ _ _ _ _ _ _ _ _ _ _ st0 st0 st0 st0 st0 st0 st0) hP hD hK hG rfl (gX5_0 _ _ _ _ _ _ _ _ _ _)) rfl rfl hl.1 rfl (lv_room (Nat.le_of_ble_eq_true rfl)) dL_areAll_217 ⟨by show _ ≤ 8; omega, by show _ ≤ 48; omega⟩) (cutLW_X5_0_1_2_3_4_5_6 _ _ _ _ _ _ _ _ _ _ _ _ _ _ _ _ _ _) hP hD hS hA (fun H locs hP hD hS => ?_)
      refine lv_sipush (v := 200) hx hb dL_areAll_220 (by decide) ?_
      refine lv_icmp_ge (tgt := 230) hx hb dL_areAll_223 (by decide) (fun c223 => ?_) (fun c223 => ?_)
      · have hf := if_t c223 hf
        refine lv_iconst (v := 0) hx hb dL_areAll_230 (by decide) ?_
        refine lv_istore (lv' := [(6, .int 0), (0, .ref (A 0)), (1, .ref (A 53)), (2, .ref (A 54)), (4, .ref (A 56)), (5, .ref (A 57)), (7, .int x7), (8, .int x8), (9, .int x9)]) hx hb dL_areAll_231 hl (by decide) rfl (fun ls hl => ?_)
        refine lv_iinc (v := x8 + 1) (lv' := [(8, .int (x8 + 1)), (6, .int 0), (0, .ref (A 0)), (1, .ref (A 53)), (2, .ref (A 54)), (4, .ref (A 56)), (5, .ref (A 57)), (7, .int x7), (9, .int x9)]) hx hb dL_areAll_233 hl (k := 7) rfl rfl (by decide) rfl (fun ls hl => ?_)
        refine lv_goto (tgt := 9) hx hb dL_areAll_236 (by decide) ?_
        refine W.widen (k := 0) (n := 0) (by omega) (by omega) ?_
        exact hk9 _ hf H locs hP hD hS ls (lv_sub hl [2, 3, 4, 5, 6, 1, 7, 0] rfl)
      · have hf := if_f c223 hf
        refine lv_iconst (v := 1) hx hb dL_areAll_226 (by decide) ?_
        refine lv_goto (tgt := 231) hx hb dL_areAll_227 (by decide) ?_
        refine lv_istore (lv' := [(6, .int 1), (0, .ref (A 0)), (1, .ref (A 53)), (2, .ref (A 54)), (4, .ref (A 56)), (5, .ref (A 57)), (7, .int x7), (8, .int x8), (9, .int x9)]) hx hb dL_areAll_231 hl (by decide) rfl (fun ls hl => ?_)
        refine lv_iinc (v := x8 + 1) (lv' := [(8, .int (x8 + 1)), (6, .int 1), (0, .ref (A 0)), (1, .ref (A 53)), (2, .ref (A 54)), (4, .ref (A 56)), (5, .ref (A 57)), (7, .int x7), (9, .int x9)]) hx hb dL_areAll_233 hl (k := 7) rfl rfl (by decide) rfl (fun ls hl => ?_)
        refine lv_goto (tgt := 9) hx hb dL_areAll_236 (by decide) ?_
        refine W.widen (k := 0) (n := 0) (by omega) (by omega) ?_
        exact hk9 _ hf H locs hP hD hS ls (lv_sub hl [2, 3, 4, 5, 6, 1, 7, 0] rfl)
  have B173 : ∀ (ct : St) (x7 : Int32) (x8 : Int32) (x9 : Int32) (x10 : Int32) (x12 : Int32) (x13 : Int32) (k9 : (Int32 × Int32) → Option (Int32 × St)) (hk9 : ∀ a9, k9 a9 = some res → Bk p l e ({ frames := 11, cells := 8, slots := 48, locals := 211 }) s m args below meth c Q A0 D 14 0 0 (wLW cI cZ A cs cw ct cu cl cb cp cg) [(0, .ref (A 0)), (1, .ref (A 53)), (2, .ref (A 54)), (4, .ref (A 56)), (5, .ref (A 57)), (6, .int (a9.1)), (7, .int x7), (8, .int (a9.2))] 9 []), fL_areAll_J173 k9 cs cw ct cb cg x7 x8 x9 x10 x12 x13 = some res → Bk p l e ({ frames := 11, cells := 8, slots := 48, locals := 211 }) s m args below meth c Q A0 D 14 0 0 (wLW cI cZ A cs cw ct cu cl cb cp cg) [(0, .ref (A 0)), (1, .ref (A 53)), (2, .ref (A 54)), (4, .ref (A 56)), (5, .ref (A 57)), (7, .int x7), (8, .int x8), (9, .int x9), (10, .int x10), (12, .int x12), (13, .int x13)] 173 [] := by
    intro ct x7 x8 x9 x10 x12 x13 k9 hk9 hf
    unfold fL_areAll_J173 at hf
    intro H locs hP hD hS ls hl
    refine lv_iload hx hb dL_areAll_173 (lv_at hl 10 rfl) ?_
    refine lv_if_eq (tgt := 195) hx hb dL_areAll_175 (by decide) (fun c175 => ?_) (fun c175 => ?_)
    · have hf := if_t c175 hf
      refine W.widen (k := 0) (n := 0) (by omega) (by omega) ?_
      exact B195 _ _ _ _ k9 hk9 hf H locs hP hD hS ls (lv_sub hl [0, 1, 2, 3, 4, 5, 6, 7] rfl)
    · have hf := if_f c175 hf
      refine lv_iload hx hb dL_areAll_178 (lv_at hl 8 rfl) ?_
      refine lv_if_eq (tgt := 195) hx hb dL_areAll_180 (by decide) (fun c180 => ?_) (fun c180 => ?_)
      · have hf := if_t c180 hf
        refine W.widen (k := 0) (n := 0) (by omega) (by omega) ?_
        exact B195 _ _ _ _ k9 hk9 hf H locs hP hD hS ls (lv_sub hl [0, 1, 2, 3, 4, 5, 6, 7] rfl)
      · have hf := if_f c180 hf
        refine lv_iload hx hb dL_areAll_183 (lv_at hl 9 rfl) ?_
        refine lv_iconst (v := 1) hx hb dL_areAll_185 (by decide) ?_
        refine lv_icmp_eq (tgt := 195) hx hb dL_areAll_186 (by decide) (fun c186 => ?_) (fun c186 => ?_)
        · have hf := if_t c186 hf
          refine W.widen (k := 0) (n := 0) (by omega) (by omega) ?_
          exact B195 _ _ _ _ k9 hk9 hf H locs hP hD hS ls (lv_sub hl [0, 1, 2, 3, 4, 5, 6, 7] rfl)
        · have hf := if_f c186 hf
          refine lv_iload hx hb dL_areAll_189 (lv_at hl 9 rfl) ?_
          refine lv_iconst (v := 2) hx hb dL_areAll_191 (by decide) ?_
          refine lv_icmp_ne (tgt := 230) hx hb dL_areAll_192 (by decide) (fun c192 => ?_) (fun c192 => ?_)
          · have hf := if_f c192 hf
            refine lv_iconst (v := 0) hx hb dL_areAll_230 (by decide) ?_
            refine lv_istore (lv' := [(6, .int 0), (0, .ref (A 0)), (1, .ref (A 53)), (2, .ref (A 54)), (4, .ref (A 56)), (5, .ref (A 57)), (7, .int x7), (8, .int x8), (9, .int x9), (10, .int x10), (12, .int x12), (13, .int x13)]) hx hb dL_areAll_231 hl (by decide) rfl (fun ls hl => ?_)
            refine lv_iinc (v := x8 + 1) (lv' := [(8, .int (x8 + 1)), (6, .int 0), (0, .ref (A 0)), (1, .ref (A 53)), (2, .ref (A 54)), (4, .ref (A 56)), (5, .ref (A 57)), (7, .int x7), (9, .int x9), (10, .int x10), (12, .int x12), (13, .int x13)]) hx hb dL_areAll_233 hl (k := 7) rfl rfl (by decide) rfl (fun ls hl => ?_)
            refine lv_goto (tgt := 9) hx hb dL_areAll_236 (by decide) ?_
            refine W.widen (k := 0) (n := 0) (by omega) (by omega) ?_
            exact hk9 _ hf H locs hP hD hS ls (lv_sub hl [2, 3, 4, 5, 6, 1, 7, 0] rfl)
          · have hf := if_t c192 hf
            refine W.widen (k := 0) (n := 0) (by omega) (by omega) ?_
            exact B195 _ _ _ _ k9 hk9 hf H locs hP hD hS ls (lv_sub hl [0, 1, 2, 3, 4, 5, 6, 7] rfl)
  have B170 : ∀ (ct : St) (x7 : Int32) (x8 : Int32) (x9 : Int32) (x10 : Int32) (x12 : Int32) (x13 : Int32) (y0 : Int32) (y1 : Int32) (k9 : (Int32 × Int32) → Option (Int32 × St)) (hk9 : ∀ a9, k9 a9 = some res → Bk p l e ({ frames := 11, cells := 8, slots := 48, locals := 211 }) s m args below meth c Q A0 D 14 0 0 (wLW cI cZ A cs cw ct cu cl cb cp cg) [(0, .ref (A 0)), (1, .ref (A 53)), (2, .ref (A 54)), (4, .ref (A 56)), (5, .ref (A 57)), (6, .int (a9.1)), (7, .int x7), (8, .int (a9.2))] 9 []), fL_areAll_J170 k9 cs cw ct cb cg x7 x8 x9 x10 x12 x13 y0 y1 = some res → Bk p l e ({ frames := 11, cells := 8, slots := 48, locals := 211 }) s m args below meth c Q A0 D 14 0 0 (wLW cI cZ A cs cw ct cu cl cb cp cg) [(0, .ref (A 0)), (1, .ref (A 53)), (2, .ref (A 54)), (4, .ref (A 56)), (5, .ref (A 57)), (7, .int x7), (8, .int x8), (9, .int x9), (10, .int x10), (12, .int x12), (13, .int x13)] 170 [.int y0, .int y1] := by
    intro ct x7 x8 x9 x10 x12 x13 y0 y1 k9 hk9 hf
    unfold fL_areAll_J170 at hf
    intro H locs hP hD hS ls hl
    refine lv_icmp_ne (tgt := 230) hx hb dL_areAll_170 (by decide) (fun c170 => ?_) (fun c170 => ?_)
    · have hf := if_f c170 hf
      refine lv_iconst (v := 0) hx hb dL_areAll_230 (by decide) ?_
      refine lv_istore (lv' := [(6, .int 0), (0, .ref (A 0)), (1, .ref (A 53)), (2, .ref (A 54)), (4, .ref (A 56)), (5, .ref (A 57)), (7, .int x7), (8, .int x8), (9, .int x9), (10, .int x10), (12, .int x12), (13, .int x13)]) hx hb dL_areAll_231 hl (by decide) rfl (fun ls hl => ?_)
      refine lv_iinc (v := x8 + 1) (lv' := [(8, .int (x8 + 1)), (6, .int 0), (0, .ref (A 0)), (1, .ref (A 53)), (2, .ref (A 54)), (4, .ref (A 56)), (5, .ref (A 57)), (7, .int x7), (9, .int x9), (10, .int x10), (12, .int x12), (13, .int x13)]) hx hb dL_areAll_233 hl (k := 7) rfl rfl (by decide) rfl (fun ls hl => ?_)
      refine lv_goto (tgt := 9) hx hb dL_areAll_236 (by decide) ?_
      refine W.widen (k := 0) (n := 0) (by omega) (by omega) ?_
      exact hk9 _ hf H locs hP hD hS ls (lv_sub hl [2, 3, 4, 5, 6, 1, 7, 0] rfl)
    · have hf := if_t c170 hf
      refine W.widen (k := 0) (n := 0) (by omega) (by omega) ?_
      exact B173 _ _ _ _ _ _ _ k9 hk9 hf H locs hP hD hS ls (lv_sub hl [0, 1, 2, 3, 4, 5, 6, 7, 8, 9, 10] rfl)
  have B149 : ∀ (ct : St) (x7 : Int32) (x8 : Int32) (x9 : Int32) (x10 : Int32) (x11 : Int32) (x12 : Int32) (x13 : Int32) (k9 : (Int32 × Int32) → Option (Int32 × St)) (hk9 : ∀ a9, k9 a9 = some res → Bk p l e ({ frames := 11, cells := 8, slots := 48, locals := 211 }) s m args below meth c Q A0 D 14 0 0 (wLW cI cZ A cs cw ct cu cl cb cp cg) [(0, .ref (A 0)), (1, .ref (A 53)), (2, .ref (A 54)), (4, .ref (A 56)), (5, .ref (A 57)), (6, .int (a9.1)), (7, .int x7), (8, .int (a9.2))] 9 []), fL_areAll_J149 k9 cs cw ct cb cg x7 x8 x9 x10 x11 x12 x13 = some res → Bk p l e ({ frames := 11, cells := 8, slots := 48, locals := 211 }) s m args below meth c Q A0 D 14 0 0 (wLW cI cZ A cs cw ct cu cl cb cp cg) [(0, .ref (A 0)), (1, .ref (A 53)), (2, .ref (A 54)), (4, .ref (A 56)), (5, .ref (A 57)), (7, .int x7), (8, .int x8), (9, .int x9), (10, .int x10), (11, .int x11), (12, .int x12), (13, .int x13)] 149 [] := by
    intro ct x7 x8 x9 x10 x11 x12 x13 k9 hk9 hf
    unfold fL_areAll_J149 at hf
    intro H locs hP hD hS ls hl
    refine lv_aload_n hx hb dL_areAll_149 rfl (lv_at hl 1 rfl) ?_
    refine lv_iload hx hb dL_areAll_150 (lv_at hl 6 rfl) ?_
    obtain ⟨c152, hf⟩ := ck_t hf
    refine va_iald (f := cg 0) hx hb hK hP 53 0 (gLW_53 _ _ _ _ _ _ _ _ _ _ _) rfl (inb_in c152) dL_areAll_152 ?_
    refine lv_bipush (v := 100) hx hb dL_areAll_153 (by decide) ?_
    refine lv_icmp_lt (tgt := 173) hx hb dL_areAll_155 (by decide) (fun c155 => ?_) (fun c155 => ?_)
    · have hf := if_t c155 hf
      refine W.widen (k := 0) (n := 0) (by omega) (by omega) ?_
      exact B173 _ _ _ _ _ _ _ k9 hk9 hf H locs hP hD hS ls (lv_sub hl [0, 1, 2, 3, 4, 5, 6, 7, 8, 10, 11] rfl)
    · have hf := if_f c155 hf
      refine lv_iload hx hb dL_areAll_158 (lv_at hl 8 rfl) ?_
      refine lv_iload hx hb dL_areAll_160 (lv_at hl 9 rfl) ?_
      refine lv_if_ne (tgt := 169) hx hb dL_areAll_162 (by decide) (fun c162 => ?_) (fun c162 => ?_)
      · have hf := if_f c162 hf
        refine lv_iconst (v := 0) hx hb dL_areAll_169 (by decide) ?_
        refine W.widen (k := 0) (n := 0) (by omega) (by omega) ?_
        exact B170 _ _ _ _ _ _ _ _ _ k9 hk9 hf H locs hP hD hS ls (lv_sub hl [0, 1, 2, 3, 4, 5, 6, 7, 8, 10, 11] rfl)
      · have hf := if_t c162 hf
        refine lv_iconst (v := 1) hx hb dL_areAll_165 (by decide) ?_
        refine lv_goto (tgt := 170) hx hb dL_areAll_166 (by decide) ?_
        refine W.widen (k := 0) (n := 0) (by omega) (by omega) ?_
        exact B170 _ _ _ _ _ _ _ _ _ k9 hk9 hf H locs hP hD hS ls (lv_sub hl [0, 1, 2, 3, 4, 5, 6, 7, 8, 10, 11] rfl)
  have B137 : ∀ (ct : St) (x7 : Int32) (x8 : Int32) (x9 : Int32) (x10 : Int32) (x11 : Int32) (x12 : Int32) (x13 : Int32) (k9 : (Int32 × Int32) → Option (Int32 × St)) (hk9 : ∀ a9, k9 a9 = some res → Bk p l e ({ frames := 11, cells := 8, slots := 48, locals := 211 }) s m args below meth c Q A0 D 14 0 0 (wLW cI cZ A cs cw ct cu cl cb cp cg) [(0, .ref (A 0)), (1, .ref (A 53)), (2, .ref (A 54)), (4, .ref (A 56)), (5, .ref (A 57)), (6, .int (a9.1)), (7, .int x7), (8, .int (a9.2))] 9 []), fL_areAll_J137 k9 cs cw ct cb cg x7 x8 x9 x10 x11 x12 x13 = some res → Bk p l e ({ frames := 11, cells := 8, slots := 48, locals := 211 }) s m args below meth c Q A0 D 14 0 0 (wLW cI cZ A cs cw ct cu cl cb cp cg) [(0, .ref (A 0)), (1, .ref (A 53)), (2, .ref (A 54)), (4, .ref (A 56)), (5, .ref (A 57)), (7, .int x7), (8, .int x8), (9, .int x9), (10, .int x10), (11, .int x11), (12, .int x12), (13, .int x13)] 137 [] := by
    intro ct x7 x8 x9 x10 x11 x12 x13 k9 hk9 hf
    unfold fL_areAll_J137 at hf
    intro H locs hP hD hS ls hl
    refine lv_aload_n hx hb dL_areAll_137 rfl (lv_at hl 1 rfl) ?_
    refine lv_iload hx hb dL_areAll_138 (lv_at hl 6 rfl) ?_
    obtain ⟨c140, hf⟩ := ck_t hf
    refine va_iald (f := cg 0) hx hb hK hP 53 0 (gLW_53 _ _ _ _ _ _ _ _ _ _ _) rfl (inb_in c140) dL_areAll_140 ?_
    refine lv_if_ge (tgt := 149) hx hb dL_areAll_141 (by decide) (fun c141 => ?_) (fun c141 => ?_)
    · have hf := if_t c141 hf
      refine W.widen (k := 0) (n := 0) (by omega) (by omega) ?_
      exact B149 _ _ _ _ _ _ _ _ k9 hk9 hf H locs hP hD hS ls (lv_sub hl [0, 1, 2, 3, 4, 5, 6, 7, 8, 9, 10, 11] rfl)
    · have hf := if_f c141 hf
      refine lv_iload hx hb dL_areAll_144 (lv_at hl 8 rfl) ?_
      refine lv_if_ne (tgt := 230) hx hb dL_areAll_146 (by decide) (fun c146 => ?_) (fun c146 => ?_)
      · have hf := if_f c146 hf
        refine lv_iconst (v := 0) hx hb dL_areAll_230 (by decide) ?_
        refine lv_istore (lv' := [(6, .int 0), (0, .ref (A 0)), (1, .ref (A 53)), (2, .ref (A 54)), (4, .ref (A 56)), (5, .ref (A 57)), (7, .int x7), (8, .int x8), (9, .int x9), (10, .int x10), (11, .int x11), (12, .int x12), (13, .int x13)]) hx hb dL_areAll_231 hl (by decide) rfl (fun ls hl => ?_)
        refine lv_iinc (v := x8 + 1) (lv' := [(8, .int (x8 + 1)), (6, .int 0), (0, .ref (A 0)), (1, .ref (A 53)), (2, .ref (A 54)), (4, .ref (A 56)), (5, .ref (A 57)), (7, .int x7), (9, .int x9), (10, .int x10), (11, .int x11), (12, .int x12), (13, .int x13)]) hx hb dL_areAll_233 hl (k := 7) rfl rfl (by decide) rfl (fun ls hl => ?_)
        refine lv_goto (tgt := 9) hx hb dL_areAll_236 (by decide) ?_
        refine W.widen (k := 0) (n := 0) (by omega) (by omega) ?_
        exact hk9 _ hf H locs hP hD hS ls (lv_sub hl [2, 3, 4, 5, 6, 1, 7, 0] rfl)
      · have hf := if_t c146 hf
        refine W.widen (k := 0) (n := 0) (by omega) (by omega) ?_
        exact B149 _ _ _ _ _ _ _ _ k9 hk9 hf H locs hP hD hS ls (lv_sub hl [0, 1, 2, 3, 4, 5, 6, 7, 8, 9, 10, 11] rfl)
  have B127 : ∀ (ct : St) (x7 : Int32) (x8 : Int32) (x9 : Int32) (x10 : Int32) (x11 : Int32) (x12 : Int32) (x13 : Int32) (k9 : (Int32 × Int32) → Option (Int32 × St)) (hk9 : ∀ a9, k9 a9 = some res → Bk p l e ({ frames := 11, cells := 8, slots := 48, locals := 211 }) s m args below meth c Q A0 D 14 0 0 (wLW cI cZ A cs cw ct cu cl cb cp cg) [(0, .ref (A 0)), (1, .ref (A 53)), (2, .ref (A 54)), (4, .ref (A 56)), (5, .ref (A 57)), (6, .int (a9.1)), (7, .int x7), (8, .int (a9.2))] 9 []), fL_areAll_J127 k9 cs cw ct cb cg x7 x8 x9 x10 x11 x12 x13 = some res → Bk p l e ({ frames := 11, cells := 8, slots := 48, locals := 211 }) s m args below meth c Q A0 D 14 0 0 (wLW cI cZ A cs cw ct cu cl cb cp cg) [(0, .ref (A 0)), (1, .ref (A 53)), (2, .ref (A 54)), (4, .ref (A 56)), (5, .ref (A 57)), (7, .int x7), (8, .int x8), (9, .int x9), (10, .int x10), (11, .int x11), (12, .int x12), (13, .int x13)] 127 [] := by
    intro ct x7 x8 x9 x10 x11 x12 x13 k9 hk9 hf
    unfold fL_areAll_J127 at hf
    intro H locs hP hD hS ls hl
    refine lv_iload hx hb dL_areAll_127 (lv_at hl 9 rfl) ?_
    refine lv_if_eq (tgt := 137) hx hb dL_areAll_129 (by decide) (fun c129 => ?_) (fun c129 => ?_)
    · have hf := if_t c129 hf
      refine W.widen (k := 0) (n := 0) (by omega) (by omega) ?_
      exact B137 _ _ _ _ _ _ _ _ k9 hk9 hf H locs hP hD hS ls (lv_sub hl [0, 1, 2, 3, 4, 5, 6, 7, 8, 9, 10, 11] rfl)
    · have hf := if_f c129 hf
      refine lv_iload hx hb dL_areAll_132 (lv_at hl 10 rfl) ?_
      refine lv_if_ne (tgt := 230) hx hb dL_areAll_134 (by decide) (fun c134 => ?_) (fun c134 => ?_)
      · have hf := if_f c134 hf
        refine lv_iconst (v := 0) hx hb dL_areAll_230 (by decide) ?_
        refine lv_istore (lv' := [(6, .int 0), (0, .ref (A 0)), (1, .ref (A 53)), (2, .ref (A 54)), (4, .ref (A 56)), (5, .ref (A 57)), (7, .int x7), (8, .int x8), (9, .int x9), (10, .int x10), (11, .int x11), (12, .int x12), (13, .int x13)]) hx hb dL_areAll_231 hl (by decide) rfl (fun ls hl => ?_)
        refine lv_iinc (v := x8 + 1) (lv' := [(8, .int (x8 + 1)), (6, .int 0), (0, .ref (A 0)), (1, .ref (A 53)), (2, .ref (A 54)), (4, .ref (A 56)), (5, .ref (A 57)), (7, .int x7), (9, .int x9), (10, .int x10), (11, .int x11), (12, .int x12), (13, .int x13)]) hx hb dL_areAll_233 hl (k := 7) rfl rfl (by decide) rfl (fun ls hl => ?_)
        refine lv_goto (tgt := 9) hx hb dL_areAll_236 (by decide) ?_
        refine W.widen (k := 0) (n := 0) (by omega) (by omega) ?_
        exact hk9 _ hf H locs hP hD hS ls (lv_sub hl [2, 3, 4, 5, 6, 1, 7, 0] rfl)
      · have hf := if_t c134 hf
        refine W.widen (k := 0) (n := 0) (by omega) (by omega) ?_
        exact B137 _ _ _ _ _ _ _ _ k9 hk9 hf H locs hP hD hS ls (lv_sub hl [0, 1, 2, 3, 4, 5, 6, 7, 8, 9, 10, 11] rfl)
  have B117 : ∀ (ct : St) (x7 : Int32) (x8 : Int32) (x9 : Int32) (x10 : Int32) (x11 : Int32) (x12 : Int32) (x13 : Int32) (k9 : (Int32 × Int32) → Option (Int32 × St)) (hk9 : ∀ a9, k9 a9 = some res → Bk p l e ({ frames := 11, cells := 8, slots := 48, locals := 211 }) s m args below meth c Q A0 D 14 0 0 (wLW cI cZ A cs cw ct cu cl cb cp cg) [(0, .ref (A 0)), (1, .ref (A 53)), (2, .ref (A 54)), (4, .ref (A 56)), (5, .ref (A 57)), (6, .int (a9.1)), (7, .int x7), (8, .int (a9.2))] 9 []), fL_areAll_J117 k9 cs cw ct cb cg x7 x8 x9 x10 x11 x12 x13 = some res → Bk p l e ({ frames := 11, cells := 8, slots := 48, locals := 211 }) s m args below meth c Q A0 D 14 0 0 (wLW cI cZ A cs cw ct cu cl cb cp cg) [(0, .ref (A 0)), (1, .ref (A 53)), (2, .ref (A 54)), (4, .ref (A 56)), (5, .ref (A 57)), (7, .int x7), (8, .int x8), (9, .int x9), (10, .int x10), (11, .int x11), (12, .int x12), (13, .int x13)] 117 [] := by
    intro ct x7 x8 x9 x10 x11 x12 x13 k9 hk9 hf
    unfold fL_areAll_J117 at hf
    intro H locs hP hD hS ls hl
    refine lv_iload hx hb dL_areAll_117 (lv_at hl 11 rfl) ?_
    refine lv_if_ne (tgt := 127) hx hb dL_areAll_119 (by decide) (fun c119 => ?_) (fun c119 => ?_)
    · have hf := if_f c119 hf
      refine W.widen (k := 0) (n := 0) (by omega) (by omega) ?_
      exact B127 _ _ _ _ _ _ _ _ k9 hk9 hf H locs hP hD hS ls (lv_sub hl [0, 1, 2, 3, 4, 5, 6, 7, 8, 9, 10, 11] rfl)
    · have hf := if_t c119 hf
      refine lv_iload hx hb dL_areAll_122 (lv_at hl 10 rfl) ?_
      refine lv_if_ne (tgt := 230) hx hb dL_areAll_124 (by decide) (fun c124 => ?_) (fun c124 => ?_)
      · have hf := if_f c124 hf
        refine lv_iconst (v := 0) hx hb dL_areAll_230 (by decide) ?_
        refine lv_istore (lv' := [(6, .int 0), (0, .ref (A 0)), (1, .ref (A 53)), (2, .ref (A 54)), (4, .ref (A 56)), (5, .ref (A 57)), (7, .int x7), (8, .int x8), (9, .int x9), (10, .int x10), (11, .int x11), (12, .int x12), (13, .int x13)]) hx hb dL_areAll_231 hl (by decide) rfl (fun ls hl => ?_)
        refine lv_iinc (v := x8 + 1) (lv' := [(8, .int (x8 + 1)), (6, .int 0), (0, .ref (A 0)), (1, .ref (A 53)), (2, .ref (A 54)), (4, .ref (A 56)), (5, .ref (A 57)), (7, .int x7), (9, .int x9), (10, .int x10), (11, .int x11), (12, .int x12), (13, .int x13)]) hx hb dL_areAll_233 hl (k := 7) rfl rfl (by decide) rfl (fun ls hl => ?_)
        refine lv_goto (tgt := 9) hx hb dL_areAll_236 (by decide) ?_
        refine W.widen (k := 0) (n := 0) (by omega) (by omega) ?_
        exact hk9 _ hf H locs hP hD hS ls (lv_sub hl [2, 3, 4, 5, 6, 1, 7, 0] rfl)
      · have hf := if_t c124 hf
        refine W.widen (k := 0) (n := 0) (by omega) (by omega) ?_
        exact B127 _ _ _ _ _ _ _ _ k9 hk9 hf H locs hP hD hS ls (lv_sub hl [0, 1, 2, 3, 4, 5, 6, 7, 8, 9, 10, 11] rfl)
  have B105 : ∀ (ct : St) (x7 : Int32) (x8 : Int32) (x9 : Int32) (x10 : Int32) (x11 : Int32) (x12 : Int32) (y0 : Int32) (k9 : (Int32 × Int32) → Option (Int32 × St)) (hk9 : ∀ a9, k9 a9 = some res → Bk p l e ({ frames := 11, cells := 8, slots := 48, locals := 211 }) s m args below meth c Q A0 D 14 0 0 (wLW cI cZ A cs cw ct cu cl cb cp cg) [(0, .ref (A 0)), (1, .ref (A 53)), (2, .ref (A 54)), (4, .ref (A 56)), (5, .ref (A 57)), (6, .int (a9.1)), (7, .int x7), (8, .int (a9.2))] 9 []), fL_areAll_J105 k9 cs cw ct cb cg x7 x8 x9 x10 x11 x12 y0 = some res → Bk p l e ({ frames := 11, cells := 8, slots := 48, locals := 211 }) s m args below meth c Q A0 D 14 0 0 (wLW cI cZ A cs cw ct cu cl cb cp cg) [(0, .ref (A 0)), (1, .ref (A 53)), (2, .ref (A 54)), (4, .ref (A 56)), (5, .ref (A 57)), (7, .int x7), (8, .int x8), (9, .int x9), (10, .int x10), (11, .int x11), (12, .int x12)] 105 [.int y0] := by
    intro ct x7 x8 x9 x10 x11 x12 y0 k9 hk9 hf
    unfold fL_areAll_J105 at hf
    intro H locs hP hD hS ls hl
    refine lv_istore (lv' := [(13, .int y0), (0, .ref (A 0)), (1, .ref (A 53)), (2, .ref (A 54)), (4, .ref (A 56)), (5, .ref (A 57)), (7, .int x7), (8, .int x8), (9, .int x9), (10, .int x10), (11, .int x11), (12, .int x12)]) hx hb dL_areAll_105 hl (by decide) rfl (fun ls hl => ?_)
    refine lv_iload hx hb dL_areAll_107 (lv_at hl 9 rfl) ?_
    refine lv_if_eq (tgt := 117) hx hb dL_areAll_109 (by decide) (fun c109 => ?_) (fun c109 => ?_)
    · have hf := if_t c109 hf
      refine W.widen (k := 0) (n := 0) (by omega) (by omega) ?_
      exact B117 _ _ _ _ _ _ _ _ k9 hk9 hf H locs hP hD hS ls (lv_sub hl [1, 2, 3, 4, 5, 6, 7, 8, 9, 10, 11, 0] rfl)
    · have hf := if_f c109 hf
      refine lv_iload hx hb dL_areAll_112 (lv_at hl 10 rfl) ?_
      refine lv_if_ne (tgt := 230) hx hb dL_areAll_114 (by decide) (fun c114 => ?_) (fun c114 => ?_)
      · have hf := if_f c114 hf
        refine lv_iconst (v := 0) hx hb dL_areAll_230 (by decide) ?_
        refine lv_istore (lv' := [(6, .int 0), (13, .int y0), (0, .ref (A 0)), (1, .ref (A 53)), (2, .ref (A 54)), (4, .ref (A 56)), (5, .ref (A 57)), (7, .int x7), (8, .int x8), (9, .int x9), (10, .int x10), (11, .int x11), (12, .int x12)]) hx hb dL_areAll_231 hl (by decide) rfl (fun ls hl => ?_)
        refine lv_iinc (v := x8 + 1) (lv' := [(8, .int (x8 + 1)), (6, .int 0), (13, .int y0), (0, .ref (A 0)), (1, .ref (A 53)), (2, .ref (A 54)), (4, .ref (A 56)), (5, .ref (A 57)), (7, .int x7), (9, .int x9), (10, .int x10), (11, .int x11), (12, .int x12)]) hx hb dL_areAll_233 hl (k := 8) rfl rfl (by decide) rfl (fun ls hl => ?_)
        refine lv_goto (tgt := 9) hx hb dL_areAll_236 (by decide) ?_
        refine W.widen (k := 0) (n := 0) (by omega) (by omega) ?_
        exact hk9 _ hf H locs hP hD hS ls (lv_sub hl [3, 4, 5, 6, 7, 1, 8, 0] rfl)
      · have hf := if_t c114 hf
        refine W.widen (k := 0) (n := 0) (by omega) (by omega) ?_
        exact B117 _ _ _ _ _ _ _ _ k9 hk9 hf H locs hP hD hS ls (lv_sub hl [1, 2, 3, 4, 5, 6, 7, 8, 9, 10, 11, 0] rfl)
  have B104 : ∀ (ct : St) (x7 : Int32) (x8 : Int32) (x9 : Int32) (x10 : Int32) (x11 : Int32) (x12 : Int32) (k9 : (Int32 × Int32) → Option (Int32 × St)) (hk9 : ∀ a9, k9 a9 = some res → Bk p l e ({ frames := 11, cells := 8, slots := 48, locals := 211 }) s m args below meth c Q A0 D 14 0 0 (wLW cI cZ A cs cw ct cu cl cb cp cg) [(0, .ref (A 0)), (1, .ref (A 53)), (2, .ref (A 54)), (4, .ref (A 56)), (5, .ref (A 57)), (6, .int (a9.1)), (7, .int x7), (8, .int (a9.2))] 9 []), fL_areAll_J104 k9 cs cw ct cb cg x7 x8 x9 x10 x11 x12 = some res → Bk p l e ({ frames := 11, cells := 8, slots := 48, locals := 211 }) s m args below meth c Q A0 D 14 0 0 (wLW cI cZ A cs cw ct cu cl cb cp cg) [(0, .ref (A 0)), (1, .ref (A 53)), (2, .ref (A 54)), (4, .ref (A 56)), (5, .ref (A 57)), (7, .int x7), (8, .int x8), (9, .int x9), (10, .int x10), (11, .int x11), (12, .int x12)] 104 [] := by
    intro ct x7 x8 x9 x10 x11 x12 k9 hk9 hf
    unfold fL_areAll_J104 at hf
    intro H locs hP hD hS ls hl
    refine lv_iconst (v := 0) hx hb dL_areAll_104 (by decide) ?_
    refine W.widen (k := 0) (n := 0) (by omega) (by omega) ?_
    exact B105 _ _ _ _ _ _ _ _ k9 hk9 hf H locs hP hD hS ls (lv_sub hl [0, 1, 2, 3, 4, 5, 6, 7, 8, 9, 10] rfl)
  have B69 : ∀ (ct : St) (x7 : Int32) (x8 : Int32) (x9 : Int32) (x10 : Int32) (y0 : Int32) (k9 : (Int32 × Int32) → Option (Int32 × St)) (hk9 : ∀ a9, k9 a9 = some res → Bk p l e ({ frames := 11, cells := 8, slots := 48, locals := 211 }) s m args below meth c Q A0 D 14 0 0 (wLW cI cZ A cs cw ct cu cl cb cp cg) [(0, .ref (A 0)), (1, .ref (A 53)), (2, .ref (A 54)), (4, .ref (A 56)), (5, .ref (A 57)), (6, .int (a9.1)), (7, .int x7), (8, .int (a9.2))] 9 []), fL_areAll_J69 k9 cs cw ct cb cg x7 x8 x9 x10 y0 = some res → Bk p l e ({ frames := 11, cells := 8, slots := 48, locals := 211 }) s m args below meth c Q A0 D 14 0 0 (wLW cI cZ A cs cw ct cu cl cb cp cg) [(0, .ref (A 0)), (1, .ref (A 53)), (2, .ref (A 54)), (4, .ref (A 56)), (5, .ref (A 57)), (7, .int x7), (8, .int x8), (9, .int x9), (10, .int x10)] 69 [.int y0] := by
    intro ct x7 x8 x9 x10 y0 k9 hk9 hf
    unfold fL_areAll_J69 at hf
    intro H locs hP hD hS ls hl
    refine lv_istore (lv' := [(11, .int y0), (0, .ref (A 0)), (1, .ref (A 53)), (2, .ref (A 54)), (4, .ref (A 56)), (5, .ref (A 57)), (7, .int x7), (8, .int x8), (9, .int x9), (10, .int x10)]) hx hb dL_areAll_69 hl (by decide) rfl (fun ls hl => ?_)
    refine lv_aload_n hx hb dL_areAll_71 rfl (lv_at hl 1 rfl) ?_
    refine lv_iload hx hb dL_areAll_72 (lv_at hl 8 rfl) ?_
    refine lv_iload hx hb dL_areAll_74 (lv_at hl 7 rfl) ?_
    refine lv_iconst (v := 5) hx hb dL_areAll_76 (by decide) ?_
    refine lv_irem hx hb dL_areAll_77 (by decide) ?_
    refine lv_iconst (v := 1) hx hb dL_areAll_78 (by decide) ?_
    obtain ⟨q79, h79, hf⟩ := bn_t hf
    refine cl_i (va_runV (As := [.int x9, .int (x8 - x8 / 5 * 5), .int 1]) (rest := []) S (mX5_port l D cI cZ (aLW_X5_0_1_2_3_4_5_6 A) cs cw ct cu cl cb cp x9 (x8 - x8 / 5 * 5) 1 H.size q79 h79) (cwV 3 hts gL_areAll_X5_port rfl rfl rfl (by decide +kernel) ⟨Nat.le_of_ble_eq_true rfl, Nat.le_of_ble_eq_true rfl⟩) (mP_V (ci := 5) (cutLW_X5_0_1_2_3_4_5_6 _ _ _ _ _ _ _ _ _ _ _ st0 st0 st0 st0 st0 st0 st0) hP hD hK hG rfl (gX5_0 _ _ _ _ _ _ _ _ _ _)) rfl rfl hl.1 rfl (lv_room (Nat.le_of_ble_eq_true rfl)) dL_areAll_79 ⟨by show _ ≤ 8; omega, by show _ ≤ 48; omega⟩) (cutLW_X5_0_1_2_3_4_5_6 _ _ _ _ _ _ _ _ _ _ _ _ _ _ _ _ _ _) hP hD hS hA (fun H locs hP hD hS => ?_)
    refine lv_istore (lv' := [(12, .int q79), (11, .int y0), (0, .ref (A 0)), (1, .ref (A 53)), (2, .ref (A 54)), (4, .ref (A 56)), (5, .ref (A 57)), (7, .int x7), (8, .int x8), (9, .int x9), (10, .int x10)]) hx hb dL_areAll_82 hl (by decide) rfl (fun ls hl => ?_)
    refine lv_aload_n hx hb dL_areAll_84 rfl (lv_at hl 3 rfl) ?_
    refine lv_iload hx hb dL_areAll_85 (lv_at hl 8 rfl) ?_
    obtain ⟨c87, hf⟩ := ck_t hf
    refine va_iald (f := cg 0) hx hb hK hP 53 0 (gLW_53 _ _ _ _ _ _ _ _ _ _ _) rfl (inb_in c87) dL_areAll_87 ?_
    refine lv_if_lt (tgt := 104) hx hb dL_areAll_88 (by decide) (fun c88 => ?_) (fun c88 => ?_)
    · have hf := if_t c88 hf
      refine W.widen (k := 0) (n := 0) (by omega) (by omega) ?_
      exact B104 _ _ _ _ _ _ _ k9 hk9 hf H locs hP hD hS ls (lv_sub hl [2, 3, 4, 5, 6, 7, 8, 9, 10, 1, 0] rfl)
    · have hf := if_f c88 hf
      refine lv_aload_n hx hb dL_areAll_91 rfl (lv_at hl 3 rfl) ?_
      refine lv_iload hx hb dL_areAll_92 (lv_at hl 8 rfl) ?_
      obtain ⟨c94, hf⟩ := ck_t hf
      refine va_iald (f := cg 0) hx hb hK hP 53 0 (gLW_53 _ _ _ _ _ _ _ _ _ _ _) rfl (inb_in c94) dL_areAll_94 ?_
      refine lv_bipush (v := 100) hx hb dL_areAll_95 (by decide) ?_
      refine lv_icmp_ge (tgt := 104) hx hb dL_areAll_97 (by decide) (fun c97 => ?_) (fun c97 => ?_)
      · have hf := if_t c97 hf
        refine W.widen (k := 0) (n := 0) (by omega) (by omega) ?_
        exact B104 _ _ _ _ _ _ _ k9 hk9 hf H locs hP hD hS ls (lv_sub hl [2, 3, 4, 5, 6, 7, 8, 9, 10, 1, 0] rfl)
      · have hf := if_f c97 hf
        refine lv_iconst (v := 1) hx hb dL_areAll_100 (by decide) ?_
        refine lv_goto (tgt := 105) hx hb dL_areAll_101 (by decide) ?_
        refine W.widen (k := 0) (n := 0) (by omega) (by omega) ?_
        exact B105 _ _ _ _ _ _ _ _ k9 hk9 hf H locs hP hD hS ls (lv_sub hl [2, 3, 4, 5, 6, 7, 8, 9, 10, 1, 0] rfl)
  have B47 : ∀ (ct : St) (x7 : Int32) (x8 : Int32) (x9 : Int32) (y0 : Int32) (k9 : (Int32 × Int32) → Option (Int32 × St)) (hk9 : ∀ a9, k9 a9 = some res → Bk p l e ({ frames := 11, cells := 8, slots := 48, locals := 211 }) s m args below meth c Q A0 D 14 0 0 (wLW cI cZ A cs cw ct cu cl cb cp cg) [(0, .ref (A 0)), (1, .ref (A 53)), (2, .ref (A 54)), (4, .ref (A 56)), (5, .ref (A 57)), (6, .int (a9.1)), (7, .int x7), (8, .int (a9.2))] 9 []), fL_areAll_J47 k9 cs cw ct cb cg x7 x8 x9 y0 = some res → Bk p l e ({ frames := 11, cells := 8, slots := 48, locals := 211 }) s m args below meth c Q A0 D 14 0 0 (wLW cI cZ A cs cw ct cu cl cb cp cg) [(0, .ref (A 0)), (1, .ref (A 53)), (2, .ref (A 54)), (4, .ref (A 56)), (5, .ref (A 57)), (7, .int x7), (8, .int x8), (9, .int x9)] 47 [.int y0] := by
    intro ct x7 x8 x9 y0 k9 hk9 hf
    unfold fL_areAll_J47 at hf
    intro H locs hP hD hS ls hl
    refine lv_istore (lv' := [(10, .int y0), (0, .ref (A 0)), (1, .ref (A 53)), (2, .ref (A 54)), (4, .ref (A 56)), (5, .ref (A 57)), (7, .int x7), (8, .int x8), (9, .int x9)]) hx hb dL_areAll_47 hl (by decide) rfl (fun ls hl => ?_)
    refine lv_aload_n hx hb dL_areAll_49 rfl (lv_at hl 1 rfl) ?_
    refine lv_iload hx hb dL_areAll_50 (lv_at hl 8 rfl) ?_
    refine lv_iload hx hb dL_areAll_52 (lv_at hl 7 rfl) ?_
    refine lv_iconst (v := 5) hx hb dL_areAll_54 (by decide) ?_
    refine lv_irem hx hb dL_areAll_55 (by decide) ?_
    refine lv_iconst (v := 2) hx hb dL_areAll_56 (by decide) ?_
    obtain ⟨q57, h57, hf⟩ := bn_t hf
    refine cl_i (va_runV (As := [.int x9, .int (x8 - x8 / 5 * 5), .int 2]) (rest := []) S (mX5_port l D cI cZ (aLW_X5_0_1_2_3_4_5_6 A) cs cw ct cu cl cb cp x9 (x8 - x8 / 5 * 5) 2 H.size q57 h57) (cwV 3 hts gL_areAll_X5_port rfl rfl rfl (by decide +kernel) ⟨Nat.le_of_ble_eq_true rfl, Nat.le_of_ble_eq_true rfl⟩) (mP_V (ci := 5) (cutLW_X5_0_1_2_3_4_5_6 _ _ _ _ _ _ _ _ _ _ _ st0 st0 st0 st0 st0 st0 st0) hP hD hK hG rfl (gX5_0 _ _ _ _ _ _ _ _ _ _)) rfl rfl hl.1 rfl (lv_room (Nat.le_of_ble_eq_true rfl)) dL_areAll_57 ⟨by show _ ≤ 8; omega, by show _ ≤ 48; omega⟩) (cutLW_X5_0_1_2_3_4_5_6 _ _ _ _ _ _ _ _ _ _ _ _ _ _ _ _ _ _) hP hD hS hA (fun H locs hP hD hS => ?_)
    refine lv_iconst (v := 1) hx hb dL_areAll_60 (by decide) ?_
    refine lv_icmp_ne (tgt := 68) hx hb dL_areAll_61 (by decide) (fun c61 => ?_) (fun c61 => ?_)
    · have hf := if_f c61 hf
      refine lv_iconst (v := 0) hx hb dL_areAll_68 (by decide) ?_
      refine W.widen (k := 0) (n := 0) (by omega) (by omega) ?_
      exact B69 _ _ _ _ _ _ k9 hk9 hf H locs hP hD hS ls (lv_sub hl [1, 2, 3, 4, 5, 6, 7, 8, 0] rfl)
    · have hf := if_t c61 hf
      refine lv_iconst (v := 1) hx hb dL_areAll_64 (by decide) ?_
      refine lv_goto (tgt := 69) hx hb dL_areAll_65 (by decide) ?_
      refine W.widen (k := 0) (n := 0) (by omega) (by omega) ?_
      exact B69 _ _ _ _ _ _ k9 hk9 hf H locs hP hD hS ls (lv_sub hl [1, 2, 3, 4, 5, 6, 7, 8, 0] rfl)
  have B9 : ∀ (ct : St) (x7 : Int32) (x6 : Int32) (x8 : Int32), fL_areAll_L9 cs cw ct cb cg x7 x6 x8 = some res → Bk p l e ({ frames := 11, cells := 8, slots := 48, locals := 211 }) s m args below meth c Q A0 D 14 0 0 (wLW cI cZ A cs cw ct cu cl cb cp cg) [(0, .ref (A 0)), (1, .ref (A 53)), (2, .ref (A 54)), (4, .ref (A 56)), (5, .ref (A 57)), (6, .int x6), (7, .int x7), (8, .int x8)] 9 [] := by
    intro ct x7 x6 x8 hf
    refine loop_ind (step := (fun k a => fL_areAll_S9 k cs cw ct cb cg x7 (a.1) (a.2))) (fun a => Bk p l e ({ frames := 11, cells := 8, slots := 48, locals := 211 }) s m args below meth c Q A0 D 14 0 0 (wLW cI cZ A cs cw ct cu cl cb cp cg) [(0, .ref (A 0)), (1, .ref (A 53)), (2, .ref (A 54)), (4, .ref (A 56)), (5, .ref (A 57)), (6, .int (a.1)), (7, .int x7), (8, .int (a.2))] 9 []) ?_ _ _ hf
    clear hf
    intro k9 hk9 a hf
    obtain ⟨x6_, x8_⟩ := a
    clear x6 x8
    obtain ⟨x6, e_⟩ : ∃ z, z = x6_ := ⟨_, rfl⟩
    subst e_
    obtain ⟨x8, e_⟩ : ∃ z, z = x8_ := ⟨_, rfl⟩
    subst e_
    have hf : fL_areAll_S9 k9 cs cw ct cb cg x7 x6 x8 = some res := hf
    show Bk p l e ({ frames := 11, cells := 8, slots := 48, locals := 211 }) s m args below meth c Q A0 D 14 0 0 (wLW cI cZ A cs cw ct cu cl cb cp cg) [(0, .ref (A 0)), (1, .ref (A 53)), (2, .ref (A 54)), (4, .ref (A 56)), (5, .ref (A 57)), (6, .int x6), (7, .int x7), (8, .int x8)] 9 []
    unfold fL_areAll_S9 at hf
    intro H locs hP hD hS ls hl
    refine lv_iload hx hb dL_areAll_9 (lv_at hl 7 rfl) ?_
    refine lv_bipush (v := 30) hx hb dL_areAll_11 (by decide) ?_
    refine lv_icmp_ge (tgt := 239) hx hb dL_areAll_13 (by decide) (fun c13 => ?_) (fun c13 => ?_)
    · have hf := if_t c13 hf
      refine W.widen (k := 0) (n := 0) (by omega) (by omega) ?_
      exact B239 _ _ _ hf H locs hP hD hS ls (lv_sub hl [0, 1, 2, 3, 4, 5, 6] rfl)
    · have hf := if_f c13 hf
      refine lv_iload hx hb dL_areAll_16 (lv_at hl 5 rfl) ?_
      refine lv_if_eq (tgt := 239) hx hb dL_areAll_18 (by decide) (fun c18 => ?_) (fun c18 => ?_)
      · have hf := if_t c18 hf
        refine W.widen (k := 0) (n := 0) (by omega) (by omega) ?_
        exact B239 _ _ _ hf H locs hP hD hS ls (lv_sub hl [0, 1, 2, 3, 4, 5, 6] rfl)
      · have hf := if_f c18 hf
        refine lv_iload hx hb dL_areAll_21 (lv_at hl 7 rfl) ?_
        refine lv_iconst (v := 5) hx hb dL_areAll_23 (by decide) ?_
        refine lv_idiv hx hb dL_areAll_24 (by decide) ?_
        refine lv_istore (lv' := [(9, .int (x8 / 5)), (0, .ref (A 0)), (1, .ref (A 53)), (2, .ref (A 54)), (4, .ref (A 56)), (5, .ref (A 57)), (6, .int x6), (7, .int x7), (8, .int x8)]) hx hb dL_areAll_25 hl (by decide) rfl (fun ls hl => ?_)
        refine lv_aload_n hx hb dL_areAll_27 rfl (lv_at hl 1 rfl) ?_
        refine lv_iload hx hb dL_areAll_28 (lv_at hl 0 rfl) ?_
        refine lv_iload hx hb dL_areAll_30 (lv_at hl 8 rfl) ?_
        refine lv_iconst (v := 5) hx hb dL_areAll_32 (by decide) ?_
        refine lv_irem hx hb dL_areAll_33 (by decide) ?_
        refine lv_iconst (v := 0) hx hb dL_areAll_34 (by decide) ?_
        obtain ⟨q35, h35, hf⟩ := bn_t hf
        refine cl_i (va_runV (As := [.int (x8 / 5), .int (x8 - x8 / 5 * 5), .int 0]) (rest := []) S (mX5_port l D cI cZ (aLW_X5_0_1_2_3_4_5_6 A) cs cw ct cu cl cb cp (x8 / 5) (x8 - x8 / 5 * 5) 0 H.size q35 h35) (cwV 3 hts gL_areAll_X5_port rfl rfl rfl (by decide +kernel) ⟨Nat.le_of_ble_eq_true rfl, Nat.le_of_ble_eq_true rfl⟩) (mP_V (ci := 5) (cutLW_X5_0_1_2_3_4_5_6 _ _ _ _ _ _ _ _ _ _ _ st0 st0 st0 st0 st0 st0 st0) hP hD hK hG rfl (gX5_0 _ _ _ _ _ _ _ _ _ _)) rfl rfl hl.1 rfl (lv_room (Nat.le_of_ble_eq_true rfl)) dL_areAll_35 ⟨by show _ ≤ 8; omega, by show _ ≤ 48; omega⟩) (cutLW_X5_0_1_2_3_4_5_6 _ _ _ _ _ _ _ _ _ _ _ _ _ _ _ _ _ _) hP hD hS hA (fun H locs hP hD hS => ?_)
        refine lv_iconst (v := 1) hx hb dL_areAll_38 (by decide) ?_
        refine lv_icmp_ne (tgt := 46) hx hb dL_areAll_39 (by decide) (fun c39 => ?_) (fun c39 => ?_)
        · have hf := if_f c39 hf
          refine lv_iconst (v := 0) hx hb dL_areAll_46 (by decide) ?_
          refine W.widen (k := 0) (n := 0) (by omega) (by omega) ?_
          exact B47 _ _ _ _ _ k9 hk9 hf H locs hP hD hS ls (lv_sub hl [1, 2, 3, 4, 5, 7, 8, 0] rfl)
        · have hf := if_t c39 hf
          refine lv_iconst (v := 1) hx hb dL_areAll_42 (by decide) ?_
          refine lv_goto (tgt := 47) hx hb dL_areAll_43 (by decide) ?_
          refine W.widen (k := 0) (n := 0) (by omega) (by omega) ?_
          exact B47 _ _ _ _ _ k9 hk9 hf H locs hP hD hS ls (lv_sub hl [1, 2, 3, 4, 5, 7, 8, 0] rfl)
  intro H locs hP hD hS ls hl
  have hl : lv_has ls 14 [(0, .ref (A 0)), (1, .ref (A 53)), (2, .ref (A 54)), (3, .ref (A 55)), (4, .ref (A 56)), (5, .ref (A 57))] := hl
  unfold fL_areAll at hf
  refine lv_iconst (v := 1) hx hb dL_areAll_0 (by decide) ?_
  refine lv_istore (lv' := [(6, .int 1), (0, .ref (A 0)), (1, .ref (A 53)), (2, .ref (A 54)), (3, .ref (A 55)), (4, .ref (A 56)), (5, .ref (A 57))]) hx hb dL_areAll_1 hl (by decide) rfl (fun ls hl => ?_)
  refine lv_iconst (v := 0) hx hb dL_areAll_3 (by decide) ?_
  refine lv_istore (lv' := [(7, .int 0), (6, .int 1), (0, .ref (A 0)), (1, .ref (A 53)), (2, .ref (A 54)), (3, .ref (A 55)), (4, .ref (A 56)), (5, .ref (A 57))]) hx hb dL_areAll_4 hl (by decide) rfl (fun ls hl => ?_)
  refine lv_iconst (v := 0) hx hb dL_areAll_6 (by decide) ?_
  refine lv_istore (lv' := [(8, .int 0), (7, .int 0), (6, .int 1), (0, .ref (A 0)), (1, .ref (A 53)), (2, .ref (A 54)), (3, .ref (A 55)), (4, .ref (A 56)), (5, .ref (A 57))]) hx hb dL_areAll_7 hl (by decide) rfl (fun ls hl => ?_)
  refine W.widen (k := 0) (n := 0) (by omega) (by omega) ?_
  exact B9 _ _ _ _ hf H locs hP hD hS ls (lv_sub hl [3, 4, 5, 7, 8, 2, 1, 0] rfl)

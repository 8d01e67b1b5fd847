set_option maxHeartbeats 16000000 in
set_option maxRecDepth 100000 in
theorem mL_found (l : Launch) (hfl : l.stackTraces = false) (D : va_G) (cI cZ : ClassId) (Ao : Nat → Nat) (cs : St) (cw : St) (ct : St) (cu : St) (cl : St) (cb : St) (cp : St) (cg : St) (x4 : Int32) (sz : Nat) (res : Int32) (hf : fL_found cs ct cg x4 = some res) : Met l yL_found wsL_found ({ frames := 10, cells := 1, slots := 6, locals := 183 }) (xP D (tysX cI cZ) [.ref (Ao 0), .ref (Ao 53), .ref (Ao 54), .ref (Ao 56), .int x4] (wLW cI cZ Ao cs cw ct cu cl cb cp cg) sz) (mQi D res (wLW cI cZ Ao cs cw ct cu cl cb cp cg) (wLW cI cZ Ao cs cw ct cu cl cb cp cg) sz) 1 6 (va_A (wLW cI cZ Ao cs cw ct cu cl cb cp cg) sz) := by
  refine mkL (cc := cL_found) (maxL := 9) (by decide +kernel) rfl rfl (Nat.le_of_ble_eq_true rfl) ?_
  intro p e s m args below meth c A0 Q S hK hG hX hZ hA hR
  obtain ⟨hx, hb, hml, hown, hts⟩ := id S
  have v86 := hts (.constant RL 86 (100000)) (by decide +kernel)
  intro H locs hP hD hS ls hl
  have hl : lv_has ls 9 [(0, .ref (Ao 0)), (1, .ref (Ao 53)), (2, .ref (Ao 54)), (3, .ref (Ao 56)), (4, .int x4)] := hl
  refine lv_bipush (v := 6) hx hb dL_found_0 (by decide) ?_
  refine nw_i hx hb (hts (.arrayClass .int) (by decide +kernel)) hK hP hD hS hA 0 rfl 6 (by decide) (by decide) (by decide) (Nat.le_of_ble_eq_true rfl) (Nat.le_of_ble_eq_true rfl) dL_found_2 (fun q9 H hP hD hS => ?_)
  refine lv_astore (lv' := [(5, .ref q9), (0, .ref (Ao 0)), (1, .ref (Ao 53)), (2, .ref (Ao 54)), (3, .ref (Ao 56)), (4, .int x4)]) hx hb dL_found_4 hl (by decide) rfl (fun ls hl => ?_)
  obtain ⟨A, eA⟩ : ∃ A : Nat → Nat, A = fun j => bif Nat.beq j 58 then q9 else Ao j := ⟨_, rfl⟩
  have hP : va_P D vwCl (wLF cI cZ A cs cw ct cu cl cb cp cg st0) H := by rw [eA]; exact hP
  have hD : va_D A0 (wLF cI cZ A cs cw ct cu cl cb cp cg st0) := by rw [eA]; exact hD
  have hl : lv_has ls 9 [(0, .ref (A 0)), (1, .ref (A 53)), (2, .ref (A 54)), (3, .ref (A 56)), (4, .int x4), (5, .ref (A 58))] := by rw [eA]; exact lv_sub hl [1, 2, 3, 4, 5, 0] rfl
  have B175 : ∀ (cf : St) (x6 : Int32), fL_found_J175 cs ct cg cf x6 = some res → Bk p l e ({ frames := 10, cells := 1, slots := 6, locals := 183 }) s m args below meth c Q A0 D 9 1 6 (wLF cI cZ A cs cw ct cu cl cb cp cg cf) [(5, .ref (A 58)), (6, .int x6)] 175 [] := by
    intro cf x6 hf
    unfold fL_found_J175 at hf
    intro H locs hP hD hS ls hl
    refine lv_sipush (v := 1000) hx hb dL_found_175 (by decide) ?_
    refine lv_iload hx hb dL_found_178 (lv_at hl 1 rfl) ?_
    refine lv_imul hx hb dL_found_180 ?_
    refine lv_aload hx hb dL_found_181 (lv_at hl 0 rfl) ?_
    refine lv_iload hx hb dL_found_183 (lv_at hl 1 rfl) ?_
    obtain ⟨c185, hf⟩ := ck_t hf
    refine va_iald (f := cf 0) hx hb hK hP 58 0 (gLF_58 _ _ _ _ _ _ _ _ _ _ _ _) rfl (inb_in c185) dL_found_185 ?_
    refine lv_iadd hx hb dL_found_186 ?_
    exact hR _ ls H locs _ _ _ _ (congrArg (fun q => q) (Option.some.inj hf)) rfl rfl (by omega) (by omega) dL_found_187 (by rw [eA] at hP; exact hP.sub [0, 1, 2, 3, 4, 5, 6, 7, 8, 9, 10, 11, 12, 13, 14, 15, 16, 17, 18, 19, 20, 21, 22, 23, 24, 25, 26, 27, 28, 29, 30, 31, 32, 33, 34, 35, 36, 37, 38, 39, 40, 41, 42, 43, 44, 45, 46, 47, 48, 49, 50, 51, 52, 53, 54, 55, 56, 57] rfl) (by rw [eA] at hD; exact hD.sub [0, 1, 2, 3, 4, 5, 6, 7, 8, 9, 10, 11, 12, 13, 14, 15, 16, 17, 18, 19, 20, 21, 22, 23, 24, 25, 26, 27, 28, 29, 30, 31, 32, 33, 34, 35, 36, 37, 38, 39, 40, 41, 42, 43, 44, 45, 46, 47, 48, 49, 50, 51, 52, 53, 54, 55, 56, 57] (by decide) rfl) hS
  have B132 : ∀ (cf : St) (x6 : Int32) (x7 : Int32), fL_found_L132 cs ct cg cf x6 x7 = some res → Bk p l e ({ frames := 10, cells := 1, slots := 6, locals := 183 }) s m args below meth c Q A0 D 9 1 6 (wLF cI cZ A cs cw ct cu cl cb cp cg cf) [(3, .ref (A 56)), (5, .ref (A 58)), (6, .int x6), (7, .int x7)] 132 [] := by
    intro cf x6 x7 hf
    refine loop_ind (step := (fun k a => fL_found_S132 k cs ct cg cf (a.1) (a.2))) (fun a => Bk p l e ({ frames := 10, cells := 1, slots := 6, locals := 183 }) s m args below meth c Q A0 D 9 1 6 (wLF cI cZ A cs cw ct cu cl cb cp cg cf) [(3, .ref (A 56)), (5, .ref (A 58)), (6, .int (a.1)), (7, .int (a.2))] 132 []) ?_ _ _ hf
    clear hf
    intro k132 hk132 a hf
    obtain ⟨x6_, x7_⟩ := a
    clear x6 x7
    obtain ⟨x6, e_⟩ : ∃ z, z = x6_ := ⟨_, rfl⟩
    subst e_
    obtain ⟨x7, e_⟩ : ∃ z, z = x7_ := ⟨_, rfl⟩
    subst e_
    have hf : fL_found_S132 k132 cs ct cg cf x6 x7 = some res := hf
    show Bk p l e ({ frames := 10, cells := 1, slots := 6, locals := 183 }) s m args below meth c Q A0 D 9 1 6 (wLF cI cZ A cs cw ct cu cl cb cp cg cf) [(3, .ref (A 56)), (5, .ref (A 58)), (6, .int x6), (7, .int x7)] 132 []
    unfold fL_found_S132 at hf
    intro H locs hP hD hS ls hl
    refine lv_iload hx hb dL_found_132 (lv_at hl 3 rfl) ?_
    refine lv_bipush (v := 6) hx hb dL_found_134 (by decide) ?_
    refine lv_icmp_ge (tgt := 175) hx hb dL_found_136 (by decide) (fun c136 => ?_) (fun c136 => ?_)
    · have hf := if_t c136 hf
      refine W.widen (k := 1) (n := 6) (by omega) (by omega) ?_
      exact B175 _ _ hf H locs hP hD hS ls (lv_sub hl [1, 2] rfl)
    · have hf := if_f c136 hf
      refine lv_aload hx hb dL_found_139 (lv_at hl 1 rfl) ?_
      refine lv_iload hx hb dL_found_141 (lv_at hl 3 rfl) ?_
      obtain ⟨c143, hf⟩ := ck_t hf
      refine va_iald (f := cf 0) hx hb hK hP 58 0 (gLF_58 _ _ _ _ _ _ _ _ _ _ _ _) rfl (inb_in c143) dL_found_143 ?_
      refine lv_ldc (v := 100000) hx hb hown v86 dL_found_144 ?_
      refine lv_icmp_ge (tgt := 165) hx hb dL_found_146 (by decide) (fun c146 => ?_) (fun c146 => ?_)
      · have hf := if_t c146 hf
        refine lv_iload hx hb dL_found_165 (lv_at hl 2 rfl) ?_
        refine lv_istore (lv' := [(6, .int x6), (3, .ref (A 56)), (5, .ref (A 58)), (7, .int x7)]) hx hb dL_found_167 hl (by decide) rfl (fun ls hl => ?_)
        refine lv_iinc (v := x7 + 1) (lv' := [(7, .int (x7 + 1)), (6, .int x6), (3, .ref (A 56)), (5, .ref (A 58))]) hx hb dL_found_169 hl (k := 3) rfl rfl (by decide) rfl (fun ls hl => ?_)
        refine lv_goto (tgt := 132) hx hb dL_found_172 (by decide) ?_
        refine W.widen (k := 1) (n := 6) (by omega) (by omega) ?_
        exact hk132 _ hf H locs hP hD hS ls (lv_sub hl [2, 3, 1, 0] rfl)
      · have hf := if_f c146 hf
        refine lv_aload_n hx hb dL_found_149 rfl (lv_at hl 0 rfl) ?_
        refine lv_iload hx hb dL_found_150 (lv_at hl 3 rfl) ?_
        refine lv_iload hx hb dL_found_152 (lv_at hl 2 rfl) ?_
        obtain ⟨q154, h154, hf⟩ := bd_t hf
        refine cl_i (va_runS (As := [.ref (A 56), .int x7, .int x6]) (rest := []) S (mL_isBetter l hfl D cI cZ (aLF_LW_0_1_2_3_4_5_6_7 A) cs cw ct cu cl cb cp cg x7 x6 H.size q154 h154) (va_cwS 3 hts gL_found_L_isBetter rfl rfl rfl (by decide +kernel) ⟨Nat.le_of_ble_eq_true rfl, Nat.le_of_ble_eq_true rfl⟩) (xP_S (cutLF_LW_0_1_2_3_4_5_6_7 _ _ _ _ _ _ _ _ _ _ _ _ st0 st0 st0 st0 st0 st0 st0 st0) hP hD hS hA hK hG hX hZ) rfl rfl hl.1 rfl (lv_room (Nat.le_of_ble_eq_true rfl)) dL_found_154 ⟨by show _ ≤ 1; omega, by show _ ≤ 6; omega⟩) (cutLF_LW_0_1_2_3_4_5_6_7 _ _ _ _ _ _ _ _ _ _ _ _ _ _ _ _ _ _ _ _) hP hD hS hA (fun H locs hP hD hS => ?_)
        refine lv_if_eq (tgt := 165) hx hb dL_found_157 (by decide) (fun c157 => ?_) (fun c157 => ?_)
        · have hf := if_t c157 hf
          refine lv_iload hx hb dL_found_165 (lv_at hl 2 rfl) ?_
          refine lv_istore (lv' := [(6, .int x6), (3, .ref (A 56)), (5, .ref (A 58)), (7, .int x7)]) hx hb dL_found_167 hl (by decide) rfl (fun ls hl => ?_)
          refine lv_iinc (v := x7 + 1) (lv' := [(7, .int (x7 + 1)), (6, .int x6), (3, .ref (A 56)), (5, .ref (A 58))]) hx hb dL_found_169 hl (k := 3) rfl rfl (by decide) rfl (fun ls hl => ?_)
          refine lv_goto (tgt := 132) hx hb dL_found_172 (by decide) ?_
          refine W.widen (k := 1) (n := 6) (by omega) (by omega) ?_
          exact hk132 _ hf H locs hP hD hS ls (lv_sub hl [2, 3, 1, 0] rfl)
        · have hf := if_f c157 hf
          refine lv_iload hx hb dL_found_160 (lv_at hl 3 rfl) ?_
          refine lv_goto (tgt := 167) hx hb dL_found_162 (by decide) ?_
          refine lv_istore (lv' := [(6, .int x7), (3, .ref (A 56)), (5, .ref (A 58)), (7, .int x7)]) hx hb dL_found_167 hl (by decide) rfl (fun ls hl => ?_)
          refine lv_iinc (v := x7 + 1) (lv' := [(7, .int (x7 + 1)), (6, .int x7), (3, .ref (A 56)), (5, .ref (A 58))]) hx hb dL_found_169 hl (k := 3) rfl rfl (by decide) rfl (fun ls hl => ?_)
          refine lv_goto (tgt := 132) hx hb dL_found_172 (by decide) ?_
          refine W.widen (k := 1) (n := 6) (by omega) (by omega) ?_
          exact hk132 _ hf H locs hP hD hS ls (lv_sub hl [2, 3, 1, 0] rfl)
  have B125 : ∀ (cf : St) (x4 : Int32), fL_found_J125 cs ct cg cf x4 = some res → Bk p l e ({ frames := 10, cells := 1, slots := 6, locals := 183 }) s m args below meth c Q A0 D 9 1 6 (wLF cI cZ A cs cw ct cu cl cb cp cg cf) [(3, .ref (A 56)), (4, .int x4), (5, .ref (A 58))] 125 [] := by
    intro cf x4 hf
    unfold fL_found_J125 at hf
    intro H locs hP hD hS ls hl
    refine lv_iload hx hb dL_found_125 (lv_at hl 1 rfl) ?_
    refine lv_istore (lv' := [(6, .int x4), (3, .ref (A 56)), (4, .int x4), (5, .ref (A 58))]) hx hb dL_found_127 hl (by decide) rfl (fun ls hl => ?_)
    refine lv_iconst (v := 0) hx hb dL_found_129 (by decide) ?_
    refine lv_istore (lv' := [(7, .int 0), (6, .int x4), (3, .ref (A 56)), (4, .int x4), (5, .ref (A 58))]) hx hb dL_found_130 hl (by decide) rfl (fun ls hl => ?_)
    refine W.widen (k := 1) (n := 6) (by omega) (by omega) ?_
    exact B132 _ _ _ hf H locs hP hD hS ls (lv_sub hl [2, 4, 1, 0] rfl)
  have B118 : ∀ (cf : St) (x4 : Int32) (x6 : Int32) (y0 : Int32) (y1 : Int32) (k43 : (St × Int32) → Option (Int32)) (hk43 : ∀ a43, k43 a43 = some res → Bk p l e ({ frames := 10, cells := 1, slots := 6, locals := 183 }) s m args below meth c Q A0 D 9 1 6 (wLF cI cZ A cs cw ct cu cl cb cp cg (a43.1)) [(0, .ref (A 0)), (1, .ref (A 53)), (2, .ref (A 54)), (3, .ref (A 56)), (4, .int x4), (5, .ref (A 58)), (6, .int (a43.2))] 43 []), fL_found_J118 k43 cs ct cg cf x4 x6 y0 y1 = some res → Bk p l e ({ frames := 10, cells := 1, slots := 6, locals := 183 }) s m args below meth c Q A0 D 9 1 6 (wLF cI cZ A cs cw ct cu cl cb cp cg cf) [(0, .ref (A 0)), (1, .ref (A 53)), (2, .ref (A 54)), (3, .ref (A 56)), (4, .int x4), (5, .ref (A 58)), (6, .int x6)] 118 [.int y0, .int y1, .ref (A 58)] := by
    intro cf x4 x6 y0 y1 k43 hk43 hf
    unfold fL_found_J118 at hf
    intro H locs hP hD hS ls hl
    obtain ⟨c118, hf⟩ := ck_t hf
    refine st_i hx hb hK hP hD hS 58 0 (sLF_58 _ _ _ _ _ _ _ _ _ _ _ _ _ _) (gLF_58 _ _ _ _ _ _ _ _ _ _ _ _) rfl c118 dL_found_118 (fun H locs hP hD hS => ?_)
    refine lv_iinc (v := x6 + 1) (lv' := [(6, .int (x6 + 1)), (0, .ref (A 0)), (1, .ref (A 53)), (2, .ref (A 54)), (3, .ref (A 56)), (4, .int x4), (5, .ref (A 58))]) hx hb dL_found_119 hl (k := 6) rfl rfl (by decide) rfl (fun ls hl => ?_)
    refine lv_goto (tgt := 43) hx hb dL_found_122 (by decide) ?_
    refine W.widen (k := 1) (n := 6) (by omega) (by omega) ?_
    exact hk43 _ hf H locs hP hD hS ls (lv_sub hl [1, 2, 3, 4, 5, 6, 0] rfl)
  have B43 : ∀ (x4 : Int32) (cf : St) (x6 : Int32), fL_found_L43 cs ct cg x4 cf x6 = some res → Bk p l e ({ frames := 10, cells := 1, slots := 6, locals := 183 }) s m args below meth c Q A0 D 9 1 6 (wLF cI cZ A cs cw ct cu cl cb cp cg cf) [(0, .ref (A 0)), (1, .ref (A 53)), (2, .ref (A 54)), (3, .ref (A 56)), (4, .int x4), (5, .ref (A 58)), (6, .int x6)] 43 [] := by
    intro x4 cf x6 hf
    refine loop_ind (step := (fun k a => fL_found_S43 k cs ct cg x4 (a.1) (a.2))) (fun a => Bk p l e ({ frames := 10, cells := 1, slots := 6, locals := 183 }) s m args below meth c Q A0 D 9 1 6 (wLF cI cZ A cs cw ct cu cl cb cp cg (a.1)) [(0, .ref (A 0)), (1, .ref (A 53)), (2, .ref (A 54)), (3, .ref (A 56)), (4, .int x4), (5, .ref (A 58)), (6, .int (a.2))] 43 []) ?_ _ _ hf
    clear hf
    intro k43 hk43 a hf
    obtain ⟨cf_, x6_⟩ := a
    clear cf x6
    obtain ⟨cf, e_⟩ : ∃ z, z = cf_ := ⟨_, rfl⟩
    subst e_
    obtain ⟨x6, e_⟩ : ∃ z, z = x6_ := ⟨_, rfl⟩
    subst e_
    have hf : fL_found_S43 k43 cs ct cg x4 cf x6 = some res := hf
    show Bk p l e ({ frames := 10, cells := 1, slots := 6, locals := 183 }) s m args below meth c Q A0 D 9 1 6 (wLF cI cZ A cs cw ct cu cl cb cp cg cf) [(0, .ref (A 0)), (1, .ref (A 53)), (2, .ref (A 54)), (3, .ref (A 56)), (4, .int x4), (5, .ref (A 58)), (6, .int x6)] 43 []
    unfold fL_found_S43 at hf
    intro H locs hP hD hS ls hl
    refine lv_iload hx hb dL_found_43 (lv_at hl 6 rfl) ?_
    refine lv_sipush (v := 180) hx hb dL_found_45 (by decide) ?_
    refine lv_icmp_ge (tgt := 125) hx hb dL_found_48 (by decide) (fun c48 => ?_) (fun c48 => ?_)
    · have hf := if_t c48 hf
      refine W.widen (k := 1) (n := 6) (by omega) (by omega) ?_
      exact B125 _ _ hf H locs hP hD hS ls (lv_sub hl [3, 4, 5] rfl)
    · have hf := if_f c48 hf
      refine lv_iload hx hb dL_found_51 (lv_at hl 6 rfl) ?_
      refine lv_bipush (v := 30) hx hb dL_found_53 (by decide) ?_
      refine lv_irem hx hb dL_found_55 (by decide) ?_
      refine lv_istore (lv' := [(7, .int (x6 - x6 / 30 * 30)), (0, .ref (A 0)), (1, .ref (A 53)), (2, .ref (A 54)), (3, .ref (A 56)), (4, .int x4), (5, .ref (A 58)), (6, .int x6)]) hx hb dL_found_56 hl (by decide) rfl (fun ls hl => ?_)
      refine lv_aload_n hx hb dL_found_58 rfl (lv_at hl 1 rfl) ?_
      refine lv_aload_n hx hb dL_found_59 rfl (lv_at hl 2 rfl) ?_
      refine lv_iload hx hb dL_found_60 (lv_at hl 0 rfl) ?_
      obtain ⟨q62, h62, hf⟩ := bd_t hf
      refine cl_i (va_runS (As := [.ref (A 0), .ref (A 53), .int (x6 - x6 / 30 * 30)]) (rest := []) S (mL_isPassable l hfl D cI cZ (aLF_LW_0_1_2_3_4_5_6_7 A) cs cw ct cu cl cb cp cg (x6 - x6 / 30 * 30) H.size q62 h62) (va_cwS 3 hts gL_found_L_isPassable rfl rfl rfl (by decide +kernel) ⟨Nat.le_of_ble_eq_true rfl, Nat.le_of_ble_eq_true rfl⟩) (xP_S (cutLF_LW_0_1_2_3_4_5_6_7 _ _ _ _ _ _ _ _ _ _ _ _ st0 st0 st0 st0 st0 st0 st0 st0) hP hD hS hA hK hG hX hZ) rfl rfl hl.1 rfl (lv_room (Nat.le_of_ble_eq_true rfl)) dL_found_62 ⟨by show _ ≤ 1; omega, by show _ ≤ 6; omega⟩) (cutLF_LW_0_1_2_3_4_5_6_7 _ _ _ _ _ _ _ _ _ _ _ _ _ _ _ _ _ _ _ _) hP hD hS hA (fun H locs hP hD hS => ?_)
      refine lv_if_eq (tgt := 119) hx hb dL_found_65 (by decide) (fun c65 => ?_) (fun c65 => ?_)
      · have hf := if_t c65 hf
        refine lv_iinc (v := x6 + 1) (lv' := [(6, .int (x6 + 1)), (7, .int (x6 - x6 / 30 * 30)), (0, .ref (A 0)), (1, .ref (A 53)), (2, .ref (A 54)), (3, .ref (A 56)), (4, .int x4), (5, .ref (A 58))]) hx hb dL_found_119 hl (k := 7) rfl rfl (by decide) rfl (fun ls hl => ?_)
        refine lv_goto (tgt := 43) hx hb dL_found_122 (by decide) ?_
        refine W.widen (k := 1) (n := 6) (by omega) (by omega) ?_
        exact hk43 _ hf H locs hP hD hS ls (lv_sub hl [2, 3, 4, 5, 6, 7, 0] rfl)
      · have hf := if_f c65 hf
        refine lv_aload hx hb dL_found_68 (lv_at hl 6 rfl) ?_
        refine lv_iload hx hb dL_found_70 (lv_at hl 0 rfl) ?_
        refine lv_iconst (v := 5) hx hb dL_found_72 (by decide) ?_
        refine lv_idiv hx hb dL_found_73 (by decide) ?_
        obtain ⟨c74, hf⟩ := ck_t hf
        refine va_iald (f := cf 0) hx hb hK hP 58 0 (gLF_58 _ _ _ _ _ _ _ _ _ _ _ _) rfl (inb_in c74) dL_found_74 ?_
        refine lv_aload_n hx hb dL_found_75 rfl (lv_at hl 3 rfl) ?_
        refine lv_iload hx hb dL_found_76 (lv_at hl 0 rfl) ?_
        obtain ⟨c78, hf⟩ := ck_t hf
        refine va_iald (f := cg 1) hx hb hK hP 54 0 (gLF_54 _ _ _ _ _ _ _ _ _ _ _ _) rfl (inb_in c78) dL_found_78 ?_
        refine lv_iadd hx hb dL_found_79 ?_
        refine lv_istore (lv' := [(8, .int ((cf 0 ((x6 - x6 / 30 * 30) / 5).toNatClampNeg) + (cg 1 (x6 - x6 / 30 * 30).toNatClampNeg))), (7, .int (x6 - x6 / 30 * 30)), (0, .ref (A 0)), (1, .ref (A 53)), (2, .ref (A 54)), (3, .ref (A 56)), (4, .int x4), (5, .ref (A 58)), (6, .int x6)]) hx hb dL_found_80 hl (by decide) rfl (fun ls hl => ?_)
        refine lv_aload hx hb dL_found_82 (lv_at hl 7 rfl) ?_
        refine lv_aload_n hx hb dL_found_84 rfl (lv_at hl 3 rfl) ?_
        refine lv_iload hx hb dL_found_85 (lv_at hl 1 rfl) ?_
        obtain ⟨c87, hf⟩ := ck_t hf
        refine va_iald (f := cg 0) hx hb hK hP 53 0 (gLF_53 _ _ _ _ _ _ _ _ _ _ _ _) rfl (inb_in c87) dL_found_87 ?_
        refine lv_iconst (v := 5) hx hb dL_found_88 (by decide) ?_
        refine lv_idiv hx hb dL_found_89 (by decide) ?_
        refine lv_iload hx hb dL_found_90 (lv_at hl 0 rfl) ?_
        refine lv_aload hx hb dL_found_92 (lv_at hl 7 rfl) ?_
        refine lv_aload_n hx hb dL_found_94 rfl (lv_at hl 3 rfl) ?_
        refine lv_iload hx hb dL_found_95 (lv_at hl 1 rfl) ?_
        obtain ⟨c97, hf⟩ := ck_t hf
        refine va_iald (f := cg 0) hx hb hK hP 53 0 (gLF_53 _ _ _ _ _ _ _ _ _ _ _ _) rfl (inb_in c97) dL_found_97 ?_
        refine lv_iconst (v := 5) hx hb dL_found_98 (by decide) ?_
        refine lv_idiv hx hb dL_found_99 (by decide) ?_
        obtain ⟨c100, hf⟩ := ck_t hf
        refine va_iald (f := cf 0) hx hb hK hP 58 0 (gLF_58 _ _ _ _ _ _ _ _ _ _ _ _) rfl (inb_in c100) dL_found_100 ?_
        refine lv_icmp_ge (tgt := 109) hx hb dL_found_101 (by decide) (fun c101 => ?_) (fun c101 => ?_)
        · have hf := if_t c101 hf
          refine lv_aload hx hb dL_found_109 (lv_at hl 7 rfl) ?_
          refine lv_aload_n hx hb dL_found_111 rfl (lv_at hl 3 rfl) ?_
          refine lv_iload hx hb dL_found_112 (lv_at hl 1 rfl) ?_
          obtain ⟨c114, hf⟩ := ck_t hf
          refine va_iald (f := cg 0) hx hb hK hP 53 0 (gLF_53 _ _ _ _ _ _ _ _ _ _ _ _) rfl (inb_in c114) dL_found_114 ?_
          refine lv_iconst (v := 5) hx hb dL_found_115 (by decide) ?_
          refine lv_idiv hx hb dL_found_116 (by decide) ?_
          obtain ⟨c117, hf⟩ := ck_t hf
          refine va_iald (f := cf 0) hx hb hK hP 58 0 (gLF_58 _ _ _ _ _ _ _ _ _ _ _ _) rfl (inb_in c117) dL_found_117 ?_
          refine W.widen (k := 1) (n := 6) (by omega) (by omega) ?_
          exact B118 _ _ _ _ _ k43 hk43 hf H locs hP hD hS ls (lv_sub hl [2, 3, 4, 5, 6, 7, 8] rfl)
        · have hf := if_f c101 hf
          refine lv_iload hx hb dL_found_104 (lv_at hl 0 rfl) ?_
          refine lv_goto (tgt := 118) hx hb dL_found_106 (by decide) ?_
          refine W.widen (k := 1) (n := 6) (by omega) (by omega) ?_
          exact B118 _ _ _ _ _ k43 hk43 hf H locs hP hD hS ls (lv_sub hl [2, 3, 4, 5, 6, 7, 8] rfl)
  have B40 : ∀ (cf : St) (x4 : Int32), fL_found_J40 cs ct cg cf x4 = some res → Bk p l e ({ frames := 10, cells := 1, slots := 6, locals := 183 }) s m args below meth c Q A0 D 9 1 6 (wLF cI cZ A cs cw ct cu cl cb cp cg cf) [(0, .ref (A 0)), (1, .ref (A 53)), (2, .ref (A 54)), (3, .ref (A 56)), (4, .int x4), (5, .ref (A 58))] 40 [] := by
    intro cf x4 hf
    unfold fL_found_J40 at hf
    intro H locs hP hD hS ls hl
    refine lv_iconst (v := 0) hx hb dL_found_40 (by decide) ?_
    refine lv_istore (lv' := [(6, .int 0), (0, .ref (A 0)), (1, .ref (A 53)), (2, .ref (A 54)), (3, .ref (A 56)), (4, .int x4), (5, .ref (A 58))]) hx hb dL_found_41 hl (by decide) rfl (fun ls hl => ?_)
    refine W.widen (k := 1) (n := 6) (by omega) (by omega) ?_
    exact B43 _ _ _ hf H locs hP hD hS ls (lv_sub hl [1, 2, 3, 4, 5, 6, 0] rfl)
  have B33 : ∀ (cf : St) (x4 : Int32) (x6 : Int32) (y0 : Int32) (y1 : Int32) (k9 : (St × Int32) → Option (Int32)) (hk9 : ∀ a9, k9 a9 = some res → Bk p l e ({ frames := 10, cells := 1, slots := 6, locals := 183 }) s m args below meth c Q A0 D 9 1 6 (wLF cI cZ A cs cw ct cu cl cb cp cg (a9.1)) [(0, .ref (A 0)), (1, .ref (A 53)), (2, .ref (A 54)), (3, .ref (A 56)), (4, .int x4), (5, .ref (A 58)), (6, .int (a9.2))] 9 []), fL_found_J33 k9 cs ct cg cf x4 x6 y0 y1 = some res → Bk p l e ({ frames := 10, cells := 1, slots := 6, locals := 183 }) s m args below meth c Q A0 D 9 1 6 (wLF cI cZ A cs cw ct cu cl cb cp cg cf) [(0, .ref (A 0)), (1, .ref (A 53)), (2, .ref (A 54)), (3, .ref (A 56)), (4, .int x4), (5, .ref (A 58)), (6, .int x6)] 33 [.int y0, .int y1, .ref (A 58)] := by
    intro cf x4 x6 y0 y1 k9 hk9 hf
    unfold fL_found_J33 at hf
    intro H locs hP hD hS ls hl
    obtain ⟨c33, hf⟩ := ck_t hf
    refine st_i hx hb hK hP hD hS 58 0 (sLF_58 _ _ _ _ _ _ _ _ _ _ _ _ _ _) (gLF_58 _ _ _ _ _ _ _ _ _ _ _ _) rfl c33 dL_found_33 (fun H locs hP hD hS => ?_)
    refine lv_iinc (v := x6 + 1) (lv' := [(6, .int (x6 + 1)), (0, .ref (A 0)), (1, .ref (A 53)), (2, .ref (A 54)), (3, .ref (A 56)), (4, .int x4), (5, .ref (A 58))]) hx hb dL_found_34 hl (k := 6) rfl rfl (by decide) rfl (fun ls hl => ?_)
    refine lv_goto (tgt := 9) hx hb dL_found_37 (by decide) ?_
    refine W.widen (k := 1) (n := 6) (by omega) (by omega) ?_
    exact hk9 _ hf H locs hP hD hS ls (lv_sub hl [1, 2, 3, 4, 5, 6, 0] rfl)
  have B9 : ∀ (x4 : Int32) (cf : St) (x6 : Int32), fL_found_L9 cs ct cg x4 cf x6 = some res → Bk p l e ({ frames := 10, cells := 1, slots := 6, locals := 183 }) s m args below meth c Q A0 D 9 1 6 (wLF cI cZ A cs cw ct cu cl cb cp cg cf) [(0, .ref (A 0)), (1, .ref (A 53)), (2, .ref (A 54)), (3, .ref (A 56)), (4, .int x4), (5, .ref (A 58)), (6, .int x6)] 9 [] := by
    intro x4 cf x6 hf
    refine loop_ind (step := (fun k a => fL_found_S9 k cs ct cg x4 (a.1) (a.2))) (fun a => Bk p l e ({ frames := 10, cells := 1, slots := 6, locals := 183 }) s m args below meth c Q A0 D 9 1 6 (wLF cI cZ A cs cw ct cu cl cb cp cg (a.1)) [(0, .ref (A 0)), (1, .ref (A 53)), (2, .ref (A 54)), (3, .ref (A 56)), (4, .int x4), (5, .ref (A 58)), (6, .int (a.2))] 9 []) ?_ _ _ hf
    clear hf
    intro k9 hk9 a hf
    obtain ⟨cf_, x6_⟩ := a
    clear cf x6
    obtain ⟨cf, e_⟩ : ∃ z, z = cf_ := ⟨_, rfl⟩
    subst e_
    obtain ⟨x6, e_⟩ : ∃ z, z = x6_ := ⟨_, rfl⟩
    subst e_
    have hf : fL_found_S9 k9 cs ct cg x4 cf x6 = some res := hf
    show Bk p l e ({ frames := 10, cells := 1, slots := 6, locals := 183 }) s m args below meth c Q A0 D 9 1 6 (wLF cI cZ A cs cw ct cu cl cb cp cg cf) [(0, .ref (A 0)), (1, .ref (A 53)), (2, .ref (A 54)), (3, .ref (A 56)), (4, .int x4), (5, .ref (A 58)), (6, .int x6)] 9 []
    unfold fL_found_S9 at hf
    intro H locs hP hD hS ls hl
    refine lv_iload hx hb dL_found_9 (lv_at hl 6 rfl) ?_
    refine lv_bipush (v := 6) hx hb dL_found_11 (by decide) ?_
    refine lv_icmp_ge (tgt := 40) hx hb dL_found_13 (by decide) (fun c13 => ?_) (fun c13 => ?_)
    · have hf := if_t c13 hf
      refine W.widen (k := 1) (n := 6) (by omega) (by omega) ?_
      exact B40 _ _ hf H locs hP hD hS ls (lv_sub hl [0, 1, 2, 3, 4, 5] rfl)
    · have hf := if_f c13 hf
      refine lv_aload hx hb dL_found_16 (lv_at hl 5 rfl) ?_
      refine lv_iload hx hb dL_found_18 (lv_at hl 6 rfl) ?_
      refine lv_iload hx hb dL_found_20 (lv_at hl 6 rfl) ?_
      refine lv_iload hx hb dL_found_22 (lv_at hl 4 rfl) ?_
      refine lv_icmp_ne (tgt := 31) hx hb dL_found_24 (by decide) (fun c24 => ?_) (fun c24 => ?_)
      · have hf := if_f c24 hf
        refine lv_ldc (v := 100000) hx hb hown v86 dL_found_31 ?_
        refine W.widen (k := 1) (n := 6) (by omega) (by omega) ?_
        exact B33 _ _ _ _ _ k9 hk9 hf H locs hP hD hS ls (lv_sub hl [0, 1, 2, 3, 4, 5, 6] rfl)
      · have hf := if_t c24 hf
        refine lv_iconst (v := 0) hx hb dL_found_27 (by decide) ?_
        refine lv_goto (tgt := 33) hx hb dL_found_28 (by decide) ?_
        refine W.widen (k := 1) (n := 6) (by omega) (by omega) ?_
        exact B33 _ _ _ _ _ k9 hk9 hf H locs hP hD hS ls (lv_sub hl [0, 1, 2, 3, 4, 5, 6] rfl)
  unfold fL_found at hf
  refine lv_iconst (v := 0) hx hb dL_found_6 (by decide) ?_
  refine lv_istore (lv' := [(6, .int 0), (0, .ref (A 0)), (1, .ref (A 53)), (2, .ref (A 54)), (3, .ref (A 56)), (4, .int x4), (5, .ref (A 58))]) hx hb dL_found_7 hl (by decide) rfl (fun ls hl => ?_)
  refine W.widen (k := 1) (n := 6) (by omega) (by omega) ?_
  exact B9 _ _ _ hf H locs hP hD hS ls (lv_sub hl [1, 2, 3, 4, 5, 6, 0] rfl)

set_option maxHeartbeats 4000000 in
set_option maxRecDepth 100000 in
theorem mL_wire (l : Launch) (hfl : l.stackTraces = false) (D : va_G) (cI cZ cJ : ClassId) (A : Nat → Nat) (cs : St) (cw : St) (ct : St) (cu : St) (cl : St) (cb : St) (cp : St) (co : Nat → Int64) (x1 : Int32) (x2 : Int32) (x3 : Int32) (x4 : Int32) (x5 : Int32) (sz : Nat) (res : Int32 × St × (Nat → Int64)) (hf : fL_wire cw co x1 x2 x3 x4 x5 = some res) : Met l yL_wire wsL_wire ({ frames := 9, cells := 1, slots := 6, locals := 164 }) (xP D (tysL cI cZ cJ) [.ref (A 0), .int x1, .int x2, .int x3, .int x4, .int x5, .ref (A 53)] (wLW cI cZ cJ A cs cw ct cu cl cb cp co) sz) (mQi D res.1 (wLW cI cZ cJ A cs cw ct cu cl cb cp co) (wLW cI cZ cJ A cs (res.2.1) ct cu cl cb cp (res.2.2)) sz) 1 6 (va_A (wLW cI cZ cJ A cs cw ct cu cl cb cp co) sz) := by
  refine mkW (cc := cL_wire) (maxL := 8) (by decide +kernel) rfl rfl (Nat.le_of_ble_eq_true rfl) ?_
  intro p e s m args below meth c A0 Q S hK hG hX hZ hA hex hR
  obtain ⟨hx, hb, hml, hown, hts⟩ := id S
  have cc1 := hts (.classLink RL 13 (xn 1)) (by decide +kernel)
  have cc2 := hts (.classLink RL 15 (xn 2)) (by decide +kernel)
  have cc3 := hts (.classLink RL 17 (xn 3)) (by decide +kernel)
  intro H locs hP hD hS ls hl
  have hl : lv_has ls 8 [(0, .ref (A 0)), (1, .int x1), (2, .int x2), (3, .int x3), (4, .int x4), (5, .int x5), (6, .ref (A 53))] := hl
  unfold fL_wire at hf
  refine lv_aload hx hb dL_wire_0 (lv_at hl 6 rfl) ?_
  refine lv_iconst (v := 0) hx hb dL_wire_2 (by decide) ?_
  refine lv_aload_n hx hb dL_wire_3 rfl (lv_at hl 0 rfl) ?_
  refine lv_iload_n hx hb dL_wire_4 rfl (lv_at hl 1 rfl) ?_
  refine lv_iload_n hx hb dL_wire_5 rfl (lv_at hl 2 rfl) ?_
  refine lv_iload_n hx hb dL_wire_6 rfl (lv_at hl 3 rfl) ?_
  refine lv_iload hx hb dL_wire_7 (lv_at hl 4 rfl) ?_
  refine lv_iload hx hb dL_wire_9 (lv_at hl 5 rfl) ?_
  rcases hx_t hf with ⟨q11, h11, hf⟩ | ⟨kx, h11, hf⟩
  · refine cl_i (va_runV (As := [.int x1, .int x2, .int x3, .int x4, .int x5]) (rest := [.int 0, .ref (A 53)]) S (mX5_wire l D cI cZ (aLW_X5_0_1_2_3_4_5_6 A) cs cw ct cu cl cb cp x1 x2 x3 x4 x5 H.size q11 h11) (cwV 5 hts gL_wire_X5_wire rfl rfl rfl (by decide +kernel) ⟨Nat.le_of_ble_eq_true rfl, Nat.le_of_ble_eq_true rfl⟩) (mP_V (ci := 5) (cutLW_X5_0_1_2_3_4_5_6 _ _ _ _ _ _ _ _ _ _ _ _ st0 st0 st0 st0 st0 st0 st0) hP hD (hK.sub [0, 1] rfl) hG rfl (gX5_0 _ _ _ _ _ _ _ _ _ _)) rfl rfl hl.1 rfl (lv_room (Nat.le_of_ble_eq_true rfl)) dL_wire_11 ⟨Nat.le_of_ble_eq_true rfl, Nat.le_of_ble_eq_true rfl⟩) (cutLW_X5_0_1_2_3_4_5_6 _ _ _ _ _ _ _ _ _ _ _ _ _ _ _ _ _ _ _) hP hD hS hA (fun H locs hP hD hS => ?_)
    refine lv_i2l hx hb dL_wire_14 rfl ?_
    refine st_l hx hb hK hP hD hS 53 2 (sLW_53 _ _ _ _ _ _ _ _ _ _ _ _ _ _) (gLW_53 _ _ _ _ _ _ _ _ _ _ _ _) rfl (by decide) dL_wire_15 (fun H locs hP hD hS => ?_)
    refine lv_goto (tgt := 31) hx hb dL_wire_16 (by decide) ?_
    refine lv_iconst (v := 0) hx hb dL_wire_31 (by decide) ?_
    exact hR _ ls H locs _ _ _ _ (congrArg (fun q => q.1) (Option.some.inj hf)) (congrArg (fun q => (wLW cI cZ cJ A cs (q.2.1) ct cu cl cb cp (q.2.2))) (Option.some.inj hf)) (by decide) (by decide) dL_wire_32 hP hD hS
  · refine clx_i (k := kx) (vx_runV (As := [.int x1, .int x2, .int x3, .int x4, .int x5]) (rest := [.int 0, .ref (A 53)]) S (xX5_wire l hfl D cI cZ (aLW_X5_0_1_2_3_4_5_6 A) cs cw ct cu cl cb cp x1 x2 x3 x4 x5 H.size kx h11) (cwV 5 hts gL_wire_X5_wire rfl rfl rfl (by decide +kernel) ⟨Nat.le_of_ble_eq_true rfl, Nat.le_of_ble_eq_true rfl⟩) (xP_V (ci := 5) (cutLW_X5_0_1_2_3_4_5_6 _ _ _ _ _ _ _ _ _ _ _ _ st0 st0 st0 st0 st0 st0 st0) hP hD hS hA (hK.sub [0, 1] rfl) hG hX hZ rfl (gX5_0 _ _ _ _ _ _ _ _ _ _)) rfl rfl hl.1 rfl (lv_room (Nat.le_of_ble_eq_true rfl)) dL_wire_11 ⟨Nat.le_of_ble_eq_true rfl, Nat.le_of_ble_eq_true rfl⟩) (cutLW_X5_0_1_2_3_4_5_6 _ _ _ _ _ _ _ _ _ _ _ _ _ _ _ _ _ _ _) rfl hP hD hS hA (fun E ce q9 H locs hE hce hcv hcl hP hD hS => ?_)
    subst hE
    by_cases e1 : kx = 1
    · have hf := if_t e1 hf
      subst e1
      refine vx_catch (own := RL) (name := xn 1) hown [] (⟨0, 16, 19, 13⟩ : ExceptionTableEntry) [(⟨0, 16, 23, 15⟩ : ExceptionTableEntry), (⟨0, 16, 27, 17⟩ : ExceptionTableEntry)] (by rw [hex]; rfl) (fun z hz => absurd hz List.not_mem_nil) (by decide) (by decide) cc1 (va_any rfl (hX.2.1 1 (by decide))) hce hcv hcl ?_
      refine lv_astore (lv' := [(7, .ref q9), (0, .ref (A 0)), (1, .int x1), (2, .int x2), (3, .int x3), (4, .int x4), (5, .int x5), (6, .ref (A 53))]) hx hb dL_wire_19 hl (by decide) rfl (fun ls hl => ?_)
      refine lv_iconst (v := 1) hx hb dL_wire_21 (by decide) ?_
      exact hR _ ls H locs _ _ _ _ (congrArg (fun q => q.1) (Option.some.inj hf)) (congrArg (fun q => (wLW cI cZ cJ A cs (q.2.1) ct cu cl cb cp (q.2.2))) (Option.some.inj hf)) (by decide) (by decide) dL_wire_22 hP hD hS
    have hf := if_f e1 hf
    by_cases e2 : kx = 2
    · have hf := if_t e2 hf
      subst e2
      refine vx_catch (own := RL) (name := xn 2) hown [(⟨0, 16, 19, 13⟩ : ExceptionTableEntry)] (⟨0, 16, 23, 15⟩ : ExceptionTableEntry) [(⟨0, 16, 27, 17⟩ : ExceptionTableEntry)] (by rw [hex]; rfl) (List.forall_mem_cons.mpr ⟨Or.inr ⟨by decide, xn 1, cc1, hX.2.2.1 (2, 1) (by decide)⟩, (fun z hz => absurd hz List.not_mem_nil)⟩) (by decide) (by decide) cc2 (va_any rfl (hX.2.1 2 (by decide))) hce hcv hcl ?_
      refine lv_astore (lv' := [(7, .ref q9), (0, .ref (A 0)), (1, .int x1), (2, .int x2), (3, .int x3), (4, .int x4), (5, .int x5), (6, .ref (A 53))]) hx hb dL_wire_23 hl (by decide) rfl (fun ls hl => ?_)
      refine lv_iconst (v := 2) hx hb dL_wire_25 (by decide) ?_
      exact hR _ ls H locs _ _ _ _ (congrArg (fun q => q.1) (Option.some.inj hf)) (congrArg (fun q => (wLW cI cZ cJ A cs (q.2.1) ct cu cl cb cp (q.2.2))) (Option.some.inj hf)) (by decide) (by decide) dL_wire_26 hP hD hS
    have hf := if_f e2 hf
    by_cases e3 : kx = 3
    · have hf := if_t e3 hf
      subst e3
      refine vx_catch (own := RL) (name := xn 3) hown [(⟨0, 16, 19, 13⟩ : ExceptionTableEntry), (⟨0, 16, 23, 15⟩ : ExceptionTableEntry)] (⟨0, 16, 27, 17⟩ : ExceptionTableEntry) [] (by rw [hex]; rfl) (List.forall_mem_cons.mpr ⟨Or.inr ⟨by decide, xn 1, cc1, hX.2.2.1 (3, 1) (by decide)⟩, (List.forall_mem_cons.mpr ⟨Or.inr ⟨by decide, xn 2, cc2, hX.2.2.1 (3, 2) (by decide)⟩, (fun z hz => absurd hz List.not_mem_nil)⟩)⟩) (by decide) (by decide) cc3 (va_any rfl (hX.2.1 3 (by decide))) hce hcv hcl ?_
      refine lv_astore (lv' := [(7, .ref q9), (0, .ref (A 0)), (1, .int x1), (2, .int x2), (3, .int x3), (4, .int x4), (5, .int x5), (6, .ref (A 53))]) hx hb dL_wire_27 hl (by decide) rfl (fun ls hl => ?_)
      refine lv_iconst (v := 3) hx hb dL_wire_29 (by decide) ?_
      exact hR _ ls H locs _ _ _ _ (congrArg (fun q => q.1) (Option.some.inj hf)) (congrArg (fun q => (wLW cI cZ cJ A cs (q.2.1) ct cu cl cb cp (q.2.2))) (Option.some.inj hf)) (by decide) (by decide) dL_wire_30 hP hD hS
    have hf := if_f e3 hf
    cases hf
set_option maxHeartbeats 4000000 in
set_option maxRecDepth 100000 in
theorem mL_free (l : Launch) (hfl : l.stackTraces = false) (D : va_G) (cI cZ cJ : ClassId) (A : Nat → Nat) (cs : St) (cw : St) (ct : St) (cu : St) (cl : St) (cb : St) (cp : St) (co : Nat → Int64) (x1 : Int32) (x2 : Int32) (sz : Nat) (res : Int32 × St × St × St × (Nat → Int64)) (hf : fL_free cw ct cb co x1 x2 = some res) : Met l yL_free wsL_free ({ frames := 9, cells := 1, slots := 6, locals := 161 }) (xP D (tysL cI cZ cJ) [.ref (A 0), .int x1, .int x2, .ref (A 53)] (wLW cI cZ cJ A cs cw ct cu cl cb cp co) sz) (mQi D res.1 (wLW cI cZ cJ A cs cw ct cu cl cb cp co) (wLW cI cZ cJ A cs (res.2.1) (res.2.2.1) cu cl (res.2.2.2.1) cp (res.2.2.2.2)) sz) 1 6 (va_A (wLW cI cZ cJ A cs cw ct cu cl cb cp co) sz) := by
  refine mkW (cc := cL_free) (maxL := 5) (by decide +kernel) rfl rfl (Nat.le_of_ble_eq_true rfl) ?_
  intro p e s m args below meth c A0 Q S hK hG hX hZ hA hex hR
  obtain ⟨hx, hb, hml, hown, hts⟩ := id S
  have cc1 := hts (.classLink RL 13 (xn 1)) (by decide +kernel)
  have cc3 := hts (.classLink RL 17 (xn 3)) (by decide +kernel)
  intro H locs hP hD hS ls hl
  have hl : lv_has ls 5 [(0, .ref (A 0)), (1, .int x1), (2, .int x2), (3, .ref (A 53))] := hl
  unfold fL_free at hf
  refine lv_aload_n hx hb dL_free_0 rfl (lv_at hl 3 rfl) ?_
  refine lv_iconst (v := 0) hx hb dL_free_1 (by decide) ?_
  refine lv_aload_n hx hb dL_free_2 rfl (lv_at hl 0 rfl) ?_
  refine lv_iload_n hx hb dL_free_3 rfl (lv_at hl 1 rfl) ?_
  refine lv_iload_n hx hb dL_free_4 rfl (lv_at hl 2 rfl) ?_
  rcases hx_t hf with ⟨q5, h5, hf⟩ | ⟨kx, h5, hf⟩
  · refine cl_i (va_runV (As := [.int x1, .int x2]) (rest := [.int 0, .ref (A 53)]) S (mX5_free l D cI cZ (aLW_X5_0_1_2_3_4_5_6 A) cs cw ct cu cl cb cp x1 x2 H.size q5 h5) (cwV 2 hts gL_free_X5_free rfl rfl rfl (by decide +kernel) ⟨Nat.le_of_ble_eq_true rfl, Nat.le_of_ble_eq_true rfl⟩) (mP_V (ci := 5) (cutLW_X5_0_1_2_3_4_5_6 _ _ _ _ _ _ _ _ _ _ _ _ st0 st0 st0 st0 st0 st0 st0) hP hD (hK.sub [0, 1] rfl) hG rfl (gX5_0 _ _ _ _ _ _ _ _ _ _)) rfl rfl hl.1 rfl (lv_room (Nat.le_of_ble_eq_true rfl)) dL_free_5 ⟨Nat.le_of_ble_eq_true rfl, Nat.le_of_ble_eq_true rfl⟩) (cutLW_X5_0_1_2_3_4_5_6 _ _ _ _ _ _ _ _ _ _ _ _ _ _ _ _ _ _ _) hP hD hS hA (fun H locs hP hD hS => ?_)
    refine lv_i2l hx hb dL_free_8 rfl ?_
    refine st_l hx hb hK hP hD hS 53 2 (sLW_53 _ _ _ _ _ _ _ _ _ _ _ _ _ _) (gLW_53 _ _ _ _ _ _ _ _ _ _ _ _) rfl (by decide) dL_free_9 (fun H locs hP hD hS => ?_)
    refine lv_goto (tgt := 21) hx hb dL_free_10 (by decide) ?_
    refine lv_iconst (v := 0) hx hb dL_free_21 (by decide) ?_
    exact hR _ ls H locs _ _ _ _ (congrArg (fun q => q.1) (Option.some.inj hf)) (congrArg (fun q => (wLW cI cZ cJ A cs (q.2.1) (q.2.2.1) cu cl (q.2.2.2.1) cp (q.2.2.2.2))) (Option.some.inj hf)) (by decide) (by decide) dL_free_22 hP hD hS
  · refine clx_i (k := kx) (vx_runV (As := [.int x1, .int x2]) (rest := [.int 0, .ref (A 53)]) S (xX5_free l hfl D cI cZ (aLW_X5_0_1_2_3_4_5_6 A) cs cw ct cu cl cb cp x1 x2 H.size kx h5) (cwV 2 hts gL_free_X5_free rfl rfl rfl (by decide +kernel) ⟨Nat.le_of_ble_eq_true rfl, Nat.le_of_ble_eq_true rfl⟩) (xP_V (ci := 5) (cutLW_X5_0_1_2_3_4_5_6 _ _ _ _ _ _ _ _ _ _ _ _ st0 st0 st0 st0 st0 st0 st0) hP hD hS hA (hK.sub [0, 1] rfl) hG hX hZ rfl (gX5_0 _ _ _ _ _ _ _ _ _ _)) rfl rfl hl.1 rfl (lv_room (Nat.le_of_ble_eq_true rfl)) dL_free_5 ⟨Nat.le_of_ble_eq_true rfl, Nat.le_of_ble_eq_true rfl⟩) (cutLW_X5_0_1_2_3_4_5_6 _ _ _ _ _ _ _ _ _ _ _ _ _ _ _ _ _ _ _) rfl hP hD hS hA (fun E ce q9 H locs hE hce hcv hcl hP hD hS => ?_)
    subst hE
    by_cases e1 : kx = 1
    · have hf := if_t e1 hf
      subst e1
      refine vx_catch (own := RL) (name := xn 1) hown [] (⟨0, 10, 13, 13⟩ : ExceptionTableEntry) [(⟨0, 10, 17, 17⟩ : ExceptionTableEntry)] (by rw [hex]; rfl) (fun z hz => absurd hz List.not_mem_nil) (by decide) (by decide) cc1 (va_any rfl (hX.2.1 1 (by decide))) hce hcv hcl ?_
      refine lv_astore (lv' := [(4, .ref q9), (0, .ref (A 0)), (1, .int x1), (2, .int x2), (3, .ref (A 53))]) hx hb dL_free_13 hl (by decide) rfl (fun ls hl => ?_)
      refine lv_iconst (v := 1) hx hb dL_free_15 (by decide) ?_
      exact hR _ ls H locs _ _ _ _ (congrArg (fun q => q.1) (Option.some.inj hf)) (congrArg (fun q => (wLW cI cZ cJ A cs (q.2.1) (q.2.2.1) cu cl (q.2.2.2.1) cp (q.2.2.2.2))) (Option.some.inj hf)) (by decide) (by decide) dL_free_16 hP hD hS
    have hf := if_f e1 hf
    by_cases e3 : kx = 3
    · have hf := if_t e3 hf
      subst e3
      refine vx_catch (own := RL) (name := xn 3) hown [(⟨0, 10, 13, 13⟩ : ExceptionTableEntry)] (⟨0, 10, 17, 17⟩ : ExceptionTableEntry) [] (by rw [hex]; rfl) (List.forall_mem_cons.mpr ⟨Or.inr ⟨by decide, xn 1, cc1, hX.2.2.1 (3, 1) (by decide)⟩, (fun z hz => absurd hz List.not_mem_nil)⟩) (by decide) (by decide) cc3 (va_any rfl (hX.2.1 3 (by decide))) hce hcv hcl ?_
      refine lv_astore (lv' := [(4, .ref q9), (0, .ref (A 0)), (1, .int x1), (2, .int x2), (3, .ref (A 53))]) hx hb dL_free_17 hl (by decide) rfl (fun ls hl => ?_)
      refine lv_iconst (v := 2) hx hb dL_free_19 (by decide) ?_
      exact hR _ ls H locs _ _ _ _ (congrArg (fun q => q.1) (Option.some.inj hf)) (congrArg (fun q => (wLW cI cZ cJ A cs (q.2.1) (q.2.2.1) cu cl (q.2.2.2.1) cp (q.2.2.2.2))) (Option.some.inj hf)) (by decide) (by decide) dL_free_20 hP hD hS
    have hf := if_f e3 hf
    cases hf
set_option maxHeartbeats 4000000 in
set_option maxRecDepth 100000 in
theorem mL_house (l : Launch) (hfl : l.stackTraces = false) (D : va_G) (cI cZ cJ : ClassId) (A : Nat → Nat) (cs : St) (cw : St) (ct : St) (cu : St) (cl : St) (cb : St) (cp : St) (co : Nat → Int64) (x1 : Int32) (x2 : Int32) (x3 : Int32) (sz : Nat) (res : Int32 × St × St × (Nat → Int64)) (hf : fL_house cw ct co x1 x2 x3 = some res) : Met l yL_house wsL_house ({ frames := 9, cells := 1, slots := 6, locals := 161 }) (xP D (tysL cI cZ cJ) [.ref (A 0), .int x1, .int x2, .int x3, .ref (A 53)] (wLW cI cZ cJ A cs cw ct cu cl cb cp co) sz) (mQi D res.1 (wLW cI cZ cJ A cs cw ct cu cl cb cp co) (wLW cI cZ cJ A cs (res.2.1) (res.2.2.1) cu cl cb cp (res.2.2.2)) sz) 1 6 (va_A (wLW cI cZ cJ A cs cw ct cu cl cb cp co) sz) := by
  refine mkW (cc := cL_house) (maxL := 6) (by decide +kernel) rfl rfl (Nat.le_of_ble_eq_true rfl) ?_
  intro p e s m args below meth c A0 Q S hK hG hX hZ hA hex hR
  obtain ⟨hx, hb, hml, hown, hts⟩ := id S
  have cc1 := hts (.classLink RL 13 (xn 1)) (by decide +kernel)
  have cc3 := hts (.classLink RL 17 (xn 3)) (by decide +kernel)
  intro H locs hP hD hS ls hl
  have hl : lv_has ls 6 [(0, .ref (A 0)), (1, .int x1), (2, .int x2), (3, .int x3), (4, .ref (A 53))] := hl
  unfold fL_house at hf
  refine lv_aload hx hb dL_house_0 (lv_at hl 4 rfl) ?_
  refine lv_iconst (v := 0) hx hb dL_house_2 (by decide) ?_
  refine lv_aload_n hx hb dL_house_3 rfl (lv_at hl 0 rfl) ?_
  refine lv_iload_n hx hb dL_house_4 rfl (lv_at hl 1 rfl) ?_
  refine lv_iload_n hx hb dL_house_5 rfl (lv_at hl 2 rfl) ?_
  refine lv_iload_n hx hb dL_house_6 rfl (lv_at hl 3 rfl) ?_
  rcases hx_t hf with ⟨q7, h7, hf⟩ | ⟨kx, h7, hf⟩
  · refine cl_i (va_runV (As := [.int x1, .int x2, .int x3]) (rest := [.int 0, .ref (A 53)]) S (mX5_house l D cI cZ (aLW_X5_0_1_2_3_4_5_6 A) cs cw ct cu cl cb cp x1 x2 x3 H.size q7 h7) (cwV 3 hts gL_house_X5_house rfl rfl rfl (by decide +kernel) ⟨Nat.le_of_ble_eq_true rfl, Nat.le_of_ble_eq_true rfl⟩) (mP_V (ci := 5) (cutLW_X5_0_1_2_3_4_5_6 _ _ _ _ _ _ _ _ _ _ _ _ st0 st0 st0 st0 st0 st0 st0) hP hD (hK.sub [0, 1] rfl) hG rfl (gX5_0 _ _ _ _ _ _ _ _ _ _)) rfl rfl hl.1 rfl (lv_room (Nat.le_of_ble_eq_true rfl)) dL_house_7 ⟨Nat.le_of_ble_eq_true rfl, Nat.le_of_ble_eq_true rfl⟩) (cutLW_X5_0_1_2_3_4_5_6 _ _ _ _ _ _ _ _ _ _ _ _ _ _ _ _ _ _ _) hP hD hS hA (fun H locs hP hD hS => ?_)
    refine lv_i2l hx hb dL_house_10 rfl ?_
    refine st_l hx hb hK hP hD hS 53 2 (sLW_53 _ _ _ _ _ _ _ _ _ _ _ _ _ _) (gLW_53 _ _ _ _ _ _ _ _ _ _ _ _) rfl (by decide) dL_house_11 (fun H locs hP hD hS => ?_)
    refine lv_goto (tgt := 23) hx hb dL_house_12 (by decide) ?_
    refine lv_iconst (v := 0) hx hb dL_house_23 (by decide) ?_
    exact hR _ ls H locs _ _ _ _ (congrArg (fun q => q.1) (Option.some.inj hf)) (congrArg (fun q => (wLW cI cZ cJ A cs (q.2.1) (q.2.2.1) cu cl cb cp (q.2.2.2))) (Option.some.inj hf)) (by decide) (by decide) dL_house_24 hP hD hS
  · refine clx_i (k := kx) (vx_runV (As := [.int x1, .int x2, .int x3]) (rest := [.int 0, .ref (A 53)]) S (xX5_house l hfl D cI cZ (aLW_X5_0_1_2_3_4_5_6 A) cs cw ct cu cl cb cp x1 x2 x3 H.size kx h7) (cwV 3 hts gL_house_X5_house rfl rfl rfl (by decide +kernel) ⟨Nat.le_of_ble_eq_true rfl, Nat.le_of_ble_eq_true rfl⟩) (xP_V (ci := 5) (cutLW_X5_0_1_2_3_4_5_6 _ _ _ _ _ _ _ _ _ _ _ _ st0 st0 st0 st0 st0 st0 st0) hP hD hS hA (hK.sub [0, 1] rfl) hG hX hZ rfl (gX5_0 _ _ _ _ _ _ _ _ _ _)) rfl rfl hl.1 rfl (lv_room (Nat.le_of_ble_eq_true rfl)) dL_house_7 ⟨Nat.le_of_ble_eq_true rfl, Nat.le_of_ble_eq_true rfl⟩) (cutLW_X5_0_1_2_3_4_5_6 _ _ _ _ _ _ _ _ _ _ _ _ _ _ _ _ _ _ _) rfl hP hD hS hA (fun E ce q9 H locs hE hce hcv hcl hP hD hS => ?_)
    subst hE
    by_cases e1 : kx = 1
    · have hf := if_t e1 hf
      subst e1
      refine vx_catch (own := RL) (name := xn 1) hown [] (⟨0, 12, 15, 13⟩ : ExceptionTableEntry) [(⟨0, 12, 19, 17⟩ : ExceptionTableEntry)] (by rw [hex]; rfl) (fun z hz => absurd hz List.not_mem_nil) (by decide) (by decide) cc1 (va_any rfl (hX.2.1 1 (by decide))) hce hcv hcl ?_
      refine lv_astore (lv' := [(5, .ref q9), (0, .ref (A 0)), (1, .int x1), (2, .int x2), (3, .int x3), (4, .ref (A 53))]) hx hb dL_house_15 hl (by decide) rfl (fun ls hl => ?_)
      refine lv_iconst (v := 1) hx hb dL_house_17 (by decide) ?_
      exact hR _ ls H locs _ _ _ _ (congrArg (fun q => q.1) (Option.some.inj hf)) (congrArg (fun q => (wLW cI cZ cJ A cs (q.2.1) (q.2.2.1) cu cl cb cp (q.2.2.2))) (Option.some.inj hf)) (by decide) (by decide) dL_house_18 hP hD hS
    have hf := if_f e1 hf
    by_cases e3 : kx = 3
    · have hf := if_t e3 hf
      subst e3
      refine vx_catch (own := RL) (name := xn 3) hown [(⟨0, 12, 15, 13⟩ : ExceptionTableEntry)] (⟨0, 12, 19, 17⟩ : ExceptionTableEntry) [] (by rw [hex]; rfl) (List.forall_mem_cons.mpr ⟨Or.inr ⟨by decide, xn 1, cc1, hX.2.2.1 (3, 1) (by decide)⟩, (fun z hz => absurd hz List.not_mem_nil)⟩) (by decide) (by decide) cc3 (va_any rfl (hX.2.1 3 (by decide))) hce hcv hcl ?_
      refine lv_astore (lv' := [(5, .ref q9), (0, .ref (A 0)), (1, .int x1), (2, .int x2), (3, .int x3), (4, .ref (A 53))]) hx hb dL_house_19 hl (by decide) rfl (fun ls hl => ?_)
      refine lv_iconst (v := 2) hx hb dL_house_21 (by decide) ?_
      exact hR _ ls H locs _ _ _ _ (congrArg (fun q => q.1) (Option.some.inj hf)) (congrArg (fun q => (wLW cI cZ cJ A cs (q.2.1) (q.2.2.1) cu cl cb cp (q.2.2.2))) (Option.some.inj hf)) (by decide) (by decide) dL_house_22 hP hD hS
    have hf := if_f e3 hf
    cases hf
set_option maxHeartbeats 4000000 in
set_option maxRecDepth 100000 in
theorem mL_rank (l : Launch) (hfl : l.stackTraces = false) (D : va_G) (cI cZ cJ : ClassId) (A : Nat → Nat) (cs : St) (cw : St) (ct : St) (cu : St) (cl : St) (cb : St) (cp : St) (co : Nat → Int64) (x1 : Int32) (x2 : Int32) (sz : Nat) (res : Int32 × St × (Nat → Int64)) (hf : fL_rank cw co x1 x2 = some res) : Met l yL_rank wsL_rank ({ frames := 8, cells := 1, slots := 6, locals := 141 }) (xP D (tysL cI cZ cJ) [.ref (A 0), .int x1, .int x2, .ref (A 53)] (wLW cI cZ cJ A cs cw ct cu cl cb cp co) sz) (mQi D res.1 (wLW cI cZ cJ A cs cw ct cu cl cb cp co) (wLW cI cZ cJ A cs (res.2.1) ct cu cl cb cp (res.2.2)) sz) 1 6 (va_A (wLW cI cZ cJ A cs cw ct cu cl cb cp co) sz) := by
  refine mkW (cc := cL_rank) (maxL := 5) (by decide +kernel) rfl rfl (Nat.le_of_ble_eq_true rfl) ?_
  intro p e s m args below meth c A0 Q S hK hG hX hZ hA hex hR
  obtain ⟨hx, hb, hml, hown, hts⟩ := id S
  have cc1 := hts (.classLink RL 13 (xn 1)) (by decide +kernel)
  have cc2 := hts (.classLink RL 15 (xn 2)) (by decide +kernel)
  intro H locs hP hD hS ls hl
  have hl : lv_has ls 5 [(0, .ref (A 0)), (1, .int x1), (2, .int x2), (3, .ref (A 53))] := hl
  unfold fL_rank at hf
  refine lv_aload_n hx hb dL_rank_0 rfl (lv_at hl 3 rfl) ?_
  refine lv_iconst (v := 0) hx hb dL_rank_1 (by decide) ?_
  refine lv_aload_n hx hb dL_rank_2 rfl (lv_at hl 0 rfl) ?_
  refine lv_iload_n hx hb dL_rank_3 rfl (lv_at hl 1 rfl) ?_
  refine lv_iload_n hx hb dL_rank_4 rfl (lv_at hl 2 rfl) ?_
  rcases hx_t hf with ⟨q5, h5, hf⟩ | ⟨kx, h5, hf⟩
  · refine cl_i (va_runV (As := [.int x1, .int x2]) (rest := [.int 0, .ref (A 53)]) S (mX5_rank l D cI cZ (aLW_X5_0_1_2_3_4_5_6 A) cs cw ct cu cl cb cp x1 x2 H.size q5 h5) (cwV 2 hts gL_rank_X5_rank rfl rfl rfl (by decide +kernel) ⟨Nat.le_of_ble_eq_true rfl, Nat.le_of_ble_eq_true rfl⟩) (mP_V (ci := 5) (cutLW_X5_0_1_2_3_4_5_6 _ _ _ _ _ _ _ _ _ _ _ _ st0 st0 st0 st0 st0 st0 st0) hP hD (hK.sub [0, 1] rfl) hG rfl (gX5_0 _ _ _ _ _ _ _ _ _ _)) rfl rfl hl.1 rfl (lv_room (Nat.le_of_ble_eq_true rfl)) dL_rank_5 ⟨Nat.le_of_ble_eq_true rfl, Nat.le_of_ble_eq_true rfl⟩) (cutLW_X5_0_1_2_3_4_5_6 _ _ _ _ _ _ _ _ _ _ _ _ _ _ _ _ _ _ _) hP hD hS hA (fun H locs hP hD hS => ?_)
    refine lv_i2l hx hb dL_rank_8 rfl ?_
    refine st_l hx hb hK hP hD hS 53 2 (sLW_53 _ _ _ _ _ _ _ _ _ _ _ _ _ _) (gLW_53 _ _ _ _ _ _ _ _ _ _ _ _) rfl (by decide) dL_rank_9 (fun H locs hP hD hS => ?_)
    refine lv_goto (tgt := 21) hx hb dL_rank_10 (by decide) ?_
    refine lv_iconst (v := 0) hx hb dL_rank_21 (by decide) ?_
    exact hR _ ls H locs _ _ _ _ (congrArg (fun q => q.1) (Option.some.inj hf)) (congrArg (fun q => (wLW cI cZ cJ A cs (q.2.1) ct cu cl cb cp (q.2.2))) (Option.some.inj hf)) (by decide) (by decide) dL_rank_22 hP hD hS
  · refine clx_i (k := kx) (vx_runV (As := [.int x1, .int x2]) (rest := [.int 0, .ref (A 53)]) S (xX5_rank l hfl D cI cZ (aLW_X5_0_1_2_3_4_5_6 A) cs cw ct cu cl cb cp x1 x2 H.size kx h5) (cwV 2 hts gL_rank_X5_rank rfl rfl rfl (by decide +kernel) ⟨Nat.le_of_ble_eq_true rfl, Nat.le_of_ble_eq_true rfl⟩) (xP_V (ci := 5) (cutLW_X5_0_1_2_3_4_5_6 _ _ _ _ _ _ _ _ _ _ _ _ st0 st0 st0 st0 st0 st0 st0) hP hD hS hA (hK.sub [0, 1] rfl) hG hX hZ rfl (gX5_0 _ _ _ _ _ _ _ _ _ _)) rfl rfl hl.1 rfl (lv_room (Nat.le_of_ble_eq_true rfl)) dL_rank_5 ⟨Nat.le_of_ble_eq_true rfl, Nat.le_of_ble_eq_true rfl⟩) (cutLW_X5_0_1_2_3_4_5_6 _ _ _ _ _ _ _ _ _ _ _ _ _ _ _ _ _ _ _) rfl hP hD hS hA (fun E ce q9 H locs hE hce hcv hcl hP hD hS => ?_)
    subst hE
    by_cases e1 : kx = 1
    · have hf := if_t e1 hf
      subst e1
      refine vx_catch (own := RL) (name := xn 1) hown [] (⟨0, 10, 13, 13⟩ : ExceptionTableEntry) [(⟨0, 10, 17, 15⟩ : ExceptionTableEntry)] (by rw [hex]; rfl) (fun z hz => absurd hz List.not_mem_nil) (by decide) (by decide) cc1 (va_any rfl (hX.2.1 1 (by decide))) hce hcv hcl ?_
      refine lv_astore (lv' := [(4, .ref q9), (0, .ref (A 0)), (1, .int x1), (2, .int x2), (3, .ref (A 53))]) hx hb dL_rank_13 hl (by decide) rfl (fun ls hl => ?_)
      refine lv_iconst (v := 1) hx hb dL_rank_15 (by decide) ?_
      exact hR _ ls H locs _ _ _ _ (congrArg (fun q => q.1) (Option.some.inj hf)) (congrArg (fun q => (wLW cI cZ cJ A cs (q.2.1) ct cu cl cb cp (q.2.2))) (Option.some.inj hf)) (by decide) (by decide) dL_rank_16 hP hD hS
    have hf := if_f e1 hf
    by_cases e2 : kx = 2
    · have hf := if_t e2 hf
      subst e2
      refine vx_catch (own := RL) (name := xn 2) hown [(⟨0, 10, 13, 13⟩ : ExceptionTableEntry)] (⟨0, 10, 17, 15⟩ : ExceptionTableEntry) [] (by rw [hex]; rfl) (List.forall_mem_cons.mpr ⟨Or.inr ⟨by decide, xn 1, cc1, hX.2.2.1 (2, 1) (by decide)⟩, (fun z hz => absurd hz List.not_mem_nil)⟩) (by decide) (by decide) cc2 (va_any rfl (hX.2.1 2 (by decide))) hce hcv hcl ?_
      refine lv_astore (lv' := [(4, .ref q9), (0, .ref (A 0)), (1, .int x1), (2, .int x2), (3, .ref (A 53))]) hx hb dL_rank_17 hl (by decide) rfl (fun ls hl => ?_)
      refine lv_iconst (v := 2) hx hb dL_rank_19 (by decide) ?_
      exact hR _ ls H locs _ _ _ _ (congrArg (fun q => q.1) (Option.some.inj hf)) (congrArg (fun q => (wLW cI cZ cJ A cs (q.2.1) ct cu cl cb cp (q.2.2))) (Option.some.inj hf)) (by decide) (by decide) dL_rank_20 hP hD hS
    have hf := if_f e2 hf
    cases hf
set_option maxHeartbeats 4000000 in
set_option maxRecDepth 100000 in
theorem mL_shut (l : Launch) (hfl : l.stackTraces = false) (D : va_G) (cI cZ cJ : ClassId) (A : Nat → Nat) (cs : St) (cw : St) (ct : St) (cu : St) (cl : St) (cb : St) (cp : St) (co : Nat → Int64) (x1 : Int32) (x2 : Int32) (sz : Nat) (res : Int32 × St × St × (Nat → Int64)) (hf : fL_shut cw ct cb co x1 x2 = some res) : Met l yL_shut wsL_shut ({ frames := 9, cells := 1, slots := 6, locals := 160 }) (xP D (tysL cI cZ cJ) [.ref (A 0), .int x1, .int x2, .ref (A 53)] (wLW cI cZ cJ A cs cw ct cu cl cb cp co) sz) (mQi D res.1 (wLW cI cZ cJ A cs cw ct cu cl cb cp co) (wLW cI cZ cJ A cs cw (res.2.1) cu cl (res.2.2.1) cp (res.2.2.2)) sz) 1 6 (va_A (wLW cI cZ cJ A cs cw ct cu cl cb cp co) sz) := by
  refine mkW (cc := cL_shut) (maxL := 5) (by decide +kernel) rfl rfl (Nat.le_of_ble_eq_true rfl) ?_
  intro p e s m args below meth c A0 Q S hK hG hX hZ hA hex hR
  obtain ⟨hx, hb, hml, hown, hts⟩ := id S
  have cc1 := hts (.classLink RL 13 (xn 1)) (by decide +kernel)
  intro H locs hP hD hS ls hl
  have hl : lv_has ls 5 [(0, .ref (A 0)), (1, .int x1), (2, .int x2), (3, .ref (A 53))] := hl
  unfold fL_shut at hf
  refine lv_aload_n hx hb dL_shut_0 rfl (lv_at hl 3 rfl) ?_
  refine lv_iconst (v := 0) hx hb dL_shut_1 (by decide) ?_
  refine lv_aload_n hx hb dL_shut_2 rfl (lv_at hl 0 rfl) ?_
  refine lv_iload_n hx hb dL_shut_3 rfl (lv_at hl 1 rfl) ?_
  refine lv_iload_n hx hb dL_shut_4 rfl (lv_at hl 2 rfl) ?_
  rcases hx_t hf with ⟨q5, h5, hf⟩ | ⟨kx, h5, hf⟩
  · refine cl_i (va_runV (As := [.int x1, .int x2]) (rest := [.int 0, .ref (A 53)]) S (mX5_shut l D cI cZ (aLW_X5_0_1_2_3_4_5_6 A) cs cw ct cu cl cb cp x1 x2 H.size q5 h5) (cwV 2 hts gL_shut_X5_shut rfl rfl rfl (by decide +kernel) ⟨Nat.le_of_ble_eq_true rfl, Nat.le_of_ble_eq_true rfl⟩) (mP_V (ci := 5) (cutLW_X5_0_1_2_3_4_5_6 _ _ _ _ _ _ _ _ _ _ _ _ st0 st0 st0 st0 st0 st0 st0) hP hD (hK.sub [0, 1] rfl) hG rfl (gX5_0 _ _ _ _ _ _ _ _ _ _)) rfl rfl hl.1 rfl (lv_room (Nat.le_of_ble_eq_true rfl)) dL_shut_5 ⟨Nat.le_of_ble_eq_true rfl, Nat.le_of_ble_eq_true rfl⟩) (cutLW_X5_0_1_2_3_4_5_6 _ _ _ _ _ _ _ _ _ _ _ _ _ _ _ _ _ _ _) hP hD hS hA (fun H locs hP hD hS => ?_)
    refine lv_if_eq (tgt := 15) hx hb dL_shut_8 (by decide) (fun c8 => ?_) (fun c8 => ?_)
    · have hf := if_t c8 hf
      refine lv_lconst (v := 0) hx hb dL_shut_15 (by decide) ?_
      refine st_l hx hb hK hP hD hS 53 2 (sLW_53 _ _ _ _ _ _ _ _ _ _ _ _ _ _) (gLW_53 _ _ _ _ _ _ _ _ _ _ _ _) rfl (by decide) dL_shut_16 (fun H locs hP hD hS => ?_)
      refine lv_goto (tgt := 24) hx hb dL_shut_17 (by decide) ?_
      refine lv_iconst (v := 0) hx hb dL_shut_24 (by decide) ?_
      exact hR _ ls H locs _ _ _ _ (congrArg (fun q => q.1) (Option.some.inj hf)) (congrArg (fun q => (wLW cI cZ cJ A cs cw (q.2.1) cu cl (q.2.2.1) cp (q.2.2.2))) (Option.some.inj hf)) (by decide) (by decide) dL_shut_25 hP hD hS
    · have hf := if_f c8 hf
      refine lv_lconst (v := 1) hx hb dL_shut_11 (by decide) ?_
      refine lv_goto (tgt := 16) hx hb dL_shut_12 (by decide) ?_
      refine st_l hx hb hK hP hD hS 53 2 (sLW_53 _ _ _ _ _ _ _ _ _ _ _ _ _ _) (gLW_53 _ _ _ _ _ _ _ _ _ _ _ _) rfl (by decide) dL_shut_16 (fun H locs hP hD hS => ?_)
      refine lv_goto (tgt := 24) hx hb dL_shut_17 (by decide) ?_
      refine lv_iconst (v := 0) hx hb dL_shut_24 (by decide) ?_
      exact hR _ ls H locs _ _ _ _ (congrArg (fun q => q.1) (Option.some.inj hf)) (congrArg (fun q => (wLW cI cZ cJ A cs cw (q.2.1) cu cl (q.2.2.1) cp (q.2.2.2))) (Option.some.inj hf)) (by decide) (by decide) dL_shut_25 hP hD hS
  · refine clx_i (k := kx) (vx_runV (As := [.int x1, .int x2]) (rest := [.int 0, .ref (A 53)]) S (xX5_shut l hfl D cI cZ (aLW_X5_0_1_2_3_4_5_6 A) cs cw ct cu cl cb cp x1 x2 H.size kx h5) (cwV 2 hts gL_shut_X5_shut rfl rfl rfl (by decide +kernel) ⟨Nat.le_of_ble_eq_true rfl, Nat.le_of_ble_eq_true rfl⟩) (xP_V (ci := 5) (cutLW_X5_0_1_2_3_4_5_6 _ _ _ _ _ _ _ _ _ _ _ _ st0 st0 st0 st0 st0 st0 st0) hP hD hS hA (hK.sub [0, 1] rfl) hG hX hZ rfl (gX5_0 _ _ _ _ _ _ _ _ _ _)) rfl rfl hl.1 rfl (lv_room (Nat.le_of_ble_eq_true rfl)) dL_shut_5 ⟨Nat.le_of_ble_eq_true rfl, Nat.le_of_ble_eq_true rfl⟩) (cutLW_X5_0_1_2_3_4_5_6 _ _ _ _ _ _ _ _ _ _ _ _ _ _ _ _ _ _ _) rfl hP hD hS hA (fun E ce q9 H locs hE hce hcv hcl hP hD hS => ?_)
    subst hE
    by_cases e1 : kx = 1
    · have hf := if_t e1 hf
      subst e1
      refine vx_catch (own := RL) (name := xn 1) hown [] (⟨0, 17, 20, 13⟩ : ExceptionTableEntry) [] (by rw [hex]; rfl) (fun z hz => absurd hz List.not_mem_nil) (by decide) (by decide) cc1 (va_any rfl (hX.2.1 1 (by decide))) hce hcv hcl ?_
      refine lv_astore (lv' := [(4, .ref q9), (0, .ref (A 0)), (1, .int x1), (2, .int x2), (3, .ref (A 53))]) hx hb dL_shut_20 hl (by decide) rfl (fun ls hl => ?_)
      refine lv_iconst (v := 1) hx hb dL_shut_22 (by decide) ?_
      exact hR _ ls H locs _ _ _ _ (congrArg (fun q => q.1) (Option.some.inj hf)) (congrArg (fun q => (wLW cI cZ cJ A cs cw (q.2.1) cu cl (q.2.2.1) cp (q.2.2.2))) (Option.some.inj hf)) (by decide) (by decide) dL_shut_23 hP hD hS
    have hf := if_f e1 hf
    cases hf
set_option maxHeartbeats 4000000 in
set_option maxRecDepth 100000 in
theorem mL_guard (l : Launch) (hfl : l.stackTraces = false) (D : va_G) (cI cZ cJ : ClassId) (A : Nat → Nat) (cs : St) (cw : St) (ct : St) (cu : St) (cl : St) (cb : St) (cp : St) (co : Nat → Int64) (x1 : Int32) (x2 : Int32) (x3 : Int32) (sz : Nat) (res : Int32 × St × (Nat → Int64)) (hf : fL_guard cw co x1 x2 x3 = some res) : Met l yL_guard wsL_guard ({ frames := 9, cells := 1, slots := 6, locals := 162 }) (xP D (tysL cI cZ cJ) [.ref (A 0), .int x1, .int x2, .int x3, .ref (A 53)] (wLW cI cZ cJ A cs cw ct cu cl cb cp co) sz) (mQi D res.1 (wLW cI cZ cJ A cs cw ct cu cl cb cp co) (wLW cI cZ cJ A cs (res.2.1) ct cu cl cb cp (res.2.2)) sz) 1 6 (va_A (wLW cI cZ cJ A cs cw ct cu cl cb cp co) sz) := by
  refine mkW (cc := cL_guard) (maxL := 6) (by decide +kernel) rfl rfl (Nat.le_of_ble_eq_true rfl) ?_
  intro p e s m args below meth c A0 Q S hK hG hX hZ hA hex hR
  obtain ⟨hx, hb, hml, hown, hts⟩ := id S
  have cc1 := hts (.classLink RL 13 (xn 1)) (by decide +kernel)
  have cc2 := hts (.classLink RL 15 (xn 2)) (by decide +kernel)
  intro H locs hP hD hS ls hl
  have hl : lv_has ls 6 [(0, .ref (A 0)), (1, .int x1), (2, .int x2), (3, .int x3), (4, .ref (A 53))] := hl
  unfold fL_guard at hf
  refine lv_aload hx hb dL_guard_0 (lv_at hl 4 rfl) ?_
  refine lv_iconst (v := 0) hx hb dL_guard_2 (by decide) ?_
  refine lv_aload_n hx hb dL_guard_3 rfl (lv_at hl 0 rfl) ?_
  refine lv_iload_n hx hb dL_guard_4 rfl (lv_at hl 1 rfl) ?_
  refine lv_iload_n hx hb dL_guard_5 rfl (lv_at hl 2 rfl) ?_
  refine lv_iload_n hx hb dL_guard_6 rfl (lv_at hl 3 rfl) ?_
  rcases hx_t hf with ⟨q7, h7, hf⟩ | ⟨kx, h7, hf⟩
  · refine cl_i (va_runV (As := [.int x1, .int x2, .int x3]) (rest := [.int 0, .ref (A 53)]) S (mX5_guard l D cI cZ (aLW_X5_0_1_2_3_4_5_6 A) cs cw ct cu cl cb cp x1 x2 x3 H.size q7 h7) (cwV 3 hts gL_guard_X5_guard rfl rfl rfl (by decide +kernel) ⟨Nat.le_of_ble_eq_true rfl, Nat.le_of_ble_eq_true rfl⟩) (mP_V (ci := 5) (cutLW_X5_0_1_2_3_4_5_6 _ _ _ _ _ _ _ _ _ _ _ _ st0 st0 st0 st0 st0 st0 st0) hP hD (hK.sub [0, 1] rfl) hG rfl (gX5_0 _ _ _ _ _ _ _ _ _ _)) rfl rfl hl.1 rfl (lv_room (Nat.le_of_ble_eq_true rfl)) dL_guard_7 ⟨Nat.le_of_ble_eq_true rfl, Nat.le_of_ble_eq_true rfl⟩) (cutLW_X5_0_1_2_3_4_5_6 _ _ _ _ _ _ _ _ _ _ _ _ _ _ _ _ _ _ _) hP hD hS hA (fun H locs hP hD hS => ?_)
    refine lv_i2l hx hb dL_guard_10 rfl ?_
    refine st_l hx hb hK hP hD hS 53 2 (sLW_53 _ _ _ _ _ _ _ _ _ _ _ _ _ _) (gLW_53 _ _ _ _ _ _ _ _ _ _ _ _) rfl (by decide) dL_guard_11 (fun H locs hP hD hS => ?_)
    refine lv_goto (tgt := 23) hx hb dL_guard_12 (by decide) ?_
    refine lv_iconst (v := 0) hx hb dL_guard_23 (by decide) ?_
    exact hR _ ls H locs _ _ _ _ (congrArg (fun q => q.1) (Option.some.inj hf)) (congrArg (fun q => (wLW cI cZ cJ A cs (q.2.1) ct cu cl cb cp (q.2.2))) (Option.some.inj hf)) (by decide) (by decide) dL_guard_24 hP hD hS
  · refine clx_i (k := kx) (vx_runV (As := [.int x1, .int x2, .int x3]) (rest := [.int 0, .ref (A 53)]) S (xX5_guard l hfl D cI cZ (aLW_X5_0_1_2_3_4_5_6 A) cs cw ct cu cl cb cp x1 x2 x3 H.size kx h7) (cwV 3 hts gL_guard_X5_guard rfl rfl rfl (by decide +kernel) ⟨Nat.le_of_ble_eq_true rfl, Nat.le_of_ble_eq_true rfl⟩) (xP_V (ci := 5) (cutLW_X5_0_1_2_3_4_5_6 _ _ _ _ _ _ _ _ _ _ _ _ st0 st0 st0 st0 st0 st0 st0) hP hD hS hA (hK.sub [0, 1] rfl) hG hX hZ rfl (gX5_0 _ _ _ _ _ _ _ _ _ _)) rfl rfl hl.1 rfl (lv_room (Nat.le_of_ble_eq_true rfl)) dL_guard_7 ⟨Nat.le_of_ble_eq_true rfl, Nat.le_of_ble_eq_true rfl⟩) (cutLW_X5_0_1_2_3_4_5_6 _ _ _ _ _ _ _ _ _ _ _ _ _ _ _ _ _ _ _) rfl hP hD hS hA (fun E ce q9 H locs hE hce hcv hcl hP hD hS => ?_)
    subst hE
    by_cases e1 : kx = 1
    · have hf := if_t e1 hf
      subst e1
      refine vx_catch (own := RL) (name := xn 1) hown [] (⟨0, 12, 15, 13⟩ : ExceptionTableEntry) [(⟨0, 12, 19, 15⟩ : ExceptionTableEntry)] (by rw [hex]; rfl) (fun z hz => absurd hz List.not_mem_nil) (by decide) (by decide) cc1 (va_any rfl (hX.2.1 1 (by decide))) hce hcv hcl ?_
      refine lv_astore (lv' := [(5, .ref q9), (0, .ref (A 0)), (1, .int x1), (2, .int x2), (3, .int x3), (4, .ref (A 53))]) hx hb dL_guard_15 hl (by decide) rfl (fun ls hl => ?_)
      refine lv_iconst (v := 1) hx hb dL_guard_17 (by decide) ?_
      exact hR _ ls H locs _ _ _ _ (congrArg (fun q => q.1) (Option.some.inj hf)) (congrArg (fun q => (wLW cI cZ cJ A cs (q.2.1) ct cu cl cb cp (q.2.2))) (Option.some.inj hf)) (by decide) (by decide) dL_guard_18 hP hD hS
    have hf := if_f e1 hf
    by_cases e2 : kx = 2
    · have hf := if_t e2 hf
      subst e2
      refine vx_catch (own := RL) (name := xn 2) hown [(⟨0, 12, 15, 13⟩ : ExceptionTableEntry)] (⟨0, 12, 19, 15⟩ : ExceptionTableEntry) [] (by rw [hex]; rfl) (List.forall_mem_cons.mpr ⟨Or.inr ⟨by decide, xn 1, cc1, hX.2.2.1 (2, 1) (by decide)⟩, (fun z hz => absurd hz List.not_mem_nil)⟩) (by decide) (by decide) cc2 (va_any rfl (hX.2.1 2 (by decide))) hce hcv hcl ?_
      refine lv_astore (lv' := [(5, .ref q9), (0, .ref (A 0)), (1, .int x1), (2, .int x2), (3, .int x3), (4, .ref (A 53))]) hx hb dL_guard_19 hl (by decide) rfl (fun ls hl => ?_)
      refine lv_iconst (v := 2) hx hb dL_guard_21 (by decide) ?_
      exact hR _ ls H locs _ _ _ _ (congrArg (fun q => q.1) (Option.some.inj hf)) (congrArg (fun q => (wLW cI cZ cJ A cs (q.2.1) ct cu cl cb cp (q.2.2))) (Option.some.inj hf)) (by decide) (by decide) dL_guard_22 hP hD hS
    have hf := if_f e2 hf
    cases hf
set_option maxHeartbeats 4000000 in
set_option maxRecDepth 100000 in
theorem mL_plain (l : Launch) (hfl : l.stackTraces = false) (D : va_G) (cI cZ cJ : ClassId) (A : Nat → Nat) (cs : St) (cw : St) (ct : St) (cu : St) (cl : St) (cb : St) (cp : St) (co : Nat → Int64) (x1 : Int32) (x2 : Int32) (x3 : Int32) (sz : Nat) (res : Int32 × St) (hf : fL_plain cl x1 x2 x3 = some res) : Met l yL_plain wsL_plain ({ frames := 9, cells := 1, slots := 6, locals := 160 }) (xP D (tysL cI cZ cJ) [.ref (A 0), .int x1, .int x2, .int x3] (wLW cI cZ cJ A cs cw ct cu cl cb cp co) sz) (mQi D res.1 (wLW cI cZ cJ A cs cw ct cu cl cb cp co) (wLW cI cZ cJ A cs cw ct cu (res.2) cb cp co) sz) 1 6 (va_A (wLW cI cZ cJ A cs cw ct cu cl cb cp co) sz) := by
  refine mkW (cc := cL_plain) (maxL := 5) (by decide +kernel) rfl rfl (Nat.le_of_ble_eq_true rfl) ?_
  intro p e s m args below meth c A0 Q S hK hG hX hZ hA hex hR
  obtain ⟨hx, hb, hml, hown, hts⟩ := id S
  have cc1 := hts (.classLink RL 13 (xn 1)) (by decide +kernel)
  intro H locs hP hD hS ls hl
  have hl : lv_has ls 5 [(0, .ref (A 0)), (1, .int x1), (2, .int x2), (3, .int x3)] := hl
  unfold fL_plain at hf
  refine lv_aload_n hx hb dL_plain_0 rfl (lv_at hl 0 rfl) ?_
  refine lv_iload_n hx hb dL_plain_1 rfl (lv_at hl 1 rfl) ?_
  refine lv_iload_n hx hb dL_plain_2 rfl (lv_at hl 2 rfl) ?_
  refine lv_iload_n hx hb dL_plain_3 rfl (lv_at hl 3 rfl) ?_
  rcases hx_t hf with ⟨q4, h4, hf⟩ | ⟨kx, h4, hf⟩
  · refine cl_v (va_runV (As := [.int x1, .int x2, .int x3]) (rest := []) S (mX5_plain l D cI cZ (aLW_X5_0_1_2_3_4_5_6 A) cs cw ct cu cl cb cp x1 x2 x3 H.size q4 h4) (cwV 3 hts gL_plain_X5_plain rfl rfl rfl (by decide +kernel) ⟨Nat.le_of_ble_eq_true rfl, Nat.le_of_ble_eq_true rfl⟩) (mP_V (ci := 5) (cutLW_X5_0_1_2_3_4_5_6 _ _ _ _ _ _ _ _ _ _ _ _ st0 st0 st0 st0 st0 st0 st0) hP hD (hK.sub [0, 1] rfl) hG rfl (gX5_0 _ _ _ _ _ _ _ _ _ _)) rfl rfl hl.1 rfl (lv_room (Nat.le_of_ble_eq_true rfl)) dL_plain_4 ⟨Nat.le_of_ble_eq_true rfl, Nat.le_of_ble_eq_true rfl⟩) (cutLW_X5_0_1_2_3_4_5_6 _ _ _ _ _ _ _ _ _ _ _ _ _ _ _ _ _ _ _) hP hD hS hA (fun H locs hP hD hS => ?_)
    refine lv_goto (tgt := 14) hx hb dL_plain_7 (by decide) ?_
    refine lv_iconst (v := 0) hx hb dL_plain_14 (by decide) ?_
    exact hR _ ls H locs _ _ _ _ (congrArg (fun q => q.1) (Option.some.inj hf)) (congrArg (fun q => (wLW cI cZ cJ A cs cw ct cu (q.2) cb cp co)) (Option.some.inj hf)) (by decide) (by decide) dL_plain_15 hP hD hS
  · refine clx_v (k := kx) (vx_runV (As := [.int x1, .int x2, .int x3]) (rest := []) S (xX5_plain l hfl D cI cZ (aLW_X5_0_1_2_3_4_5_6 A) cs cw ct cu cl cb cp x1 x2 x3 H.size kx h4) (cwV 3 hts gL_plain_X5_plain rfl rfl rfl (by decide +kernel) ⟨Nat.le_of_ble_eq_true rfl, Nat.le_of_ble_eq_true rfl⟩) (xP_V (ci := 5) (cutLW_X5_0_1_2_3_4_5_6 _ _ _ _ _ _ _ _ _ _ _ _ st0 st0 st0 st0 st0 st0 st0) hP hD hS hA (hK.sub [0, 1] rfl) hG hX hZ rfl (gX5_0 _ _ _ _ _ _ _ _ _ _)) rfl rfl hl.1 rfl (lv_room (Nat.le_of_ble_eq_true rfl)) dL_plain_4 ⟨Nat.le_of_ble_eq_true rfl, Nat.le_of_ble_eq_true rfl⟩) (cutLW_X5_0_1_2_3_4_5_6 _ _ _ _ _ _ _ _ _ _ _ _ _ _ _ _ _ _ _) rfl hP hD hS hA (fun E ce q9 H locs hE hce hcv hcl hP hD hS => ?_)
    subst hE
    by_cases e1 : kx = 1
    · have hf := if_t e1 hf
      subst e1
      refine vx_catch (own := RL) (name := xn 1) hown [] (⟨0, 7, 10, 13⟩ : ExceptionTableEntry) [] (by rw [hex]; rfl) (fun z hz => absurd hz List.not_mem_nil) (by decide) (by decide) cc1 (va_any rfl (hX.2.1 1 (by decide))) hce hcv hcl ?_
      refine lv_astore (lv' := [(4, .ref q9), (0, .ref (A 0)), (1, .int x1), (2, .int x2), (3, .int x3)]) hx hb dL_plain_10 hl (by decide) rfl (fun ls hl => ?_)
      refine lv_iconst (v := 1) hx hb dL_plain_12 (by decide) ?_
      exact hR _ ls H locs _ _ _ _ (congrArg (fun q => q.1) (Option.some.inj hf)) (congrArg (fun q => (wLW cI cZ cJ A cs cw ct cu (q.2) cb cp co)) (Option.some.inj hf)) (by decide) (by decide) dL_plain_13 hP hD hS
    have hf := if_f e1 hf
    cases hf
set_option maxHeartbeats 4000000 in
set_option maxRecDepth 100000 in
theorem mL_trunk (l : Launch) (hfl : l.stackTraces = false) (D : va_G) (cI cZ cJ : ClassId) (A : Nat → Nat) (cs : St) (cw : St) (ct : St) (cu : St) (cl : St) (cb : St) (cp : St) (co : Nat → Int64) (x1 : Int32) (x2 : Int32) (x3 : Int32) (x4 : Int32) (sz : Nat) (res : Int32 × St) (hf : fL_trunk cl x1 x2 x3 x4 = some res) : Met l yL_trunk wsL_trunk ({ frames := 9, cells := 1, slots := 6, locals := 161 }) (xP D (tysL cI cZ cJ) [.ref (A 0), .int x1, .int x2, .int x3, .int x4] (wLW cI cZ cJ A cs cw ct cu cl cb cp co) sz) (mQi D res.1 (wLW cI cZ cJ A cs cw ct cu cl cb cp co) (wLW cI cZ cJ A cs cw ct cu (res.2) cb cp co) sz) 1 6 (va_A (wLW cI cZ cJ A cs cw ct cu cl cb cp co) sz) := by
  refine mkW (cc := cL_trunk) (maxL := 6) (by decide +kernel) rfl rfl (Nat.le_of_ble_eq_true rfl) ?_
  intro p e s m args below meth c A0 Q S hK hG hX hZ hA hex hR
  obtain ⟨hx, hb, hml, hown, hts⟩ := id S
  have cc1 := hts (.classLink RL 13 (xn 1)) (by decide +kernel)
  have cc2 := hts (.classLink RL 15 (xn 2)) (by decide +kernel)
  intro H locs hP hD hS ls hl
  have hl : lv_has ls 6 [(0, .ref (A 0)), (1, .int x1), (2, .int x2), (3, .int x3), (4, .int x4)] := hl
  unfold fL_trunk at hf
  refine lv_aload_n hx hb dL_trunk_0 rfl (lv_at hl 0 rfl) ?_
  refine lv_iload_n hx hb dL_trunk_1 rfl (lv_at hl 1 rfl) ?_
  refine lv_iload_n hx hb dL_trunk_2 rfl (lv_at hl 2 rfl) ?_
  refine lv_iload_n hx hb dL_trunk_3 rfl (lv_at hl 3 rfl) ?_
  refine lv_iload hx hb dL_trunk_4 (lv_at hl 4 rfl) ?_
  rcases hx_t hf with ⟨q6, h6, hf⟩ | ⟨kx, h6, hf⟩
  · refine cl_v (va_runV (As := [.int x1, .int x2, .int x3, .int x4]) (rest := []) S (mX5_trunk l D cI cZ (aLW_X5_0_1_2_3_4_5_6 A) cs cw ct cu cl cb cp x1 x2 x3 x4 H.size q6 h6) (cwV 4 hts gL_trunk_X5_trunk rfl rfl rfl (by decide +kernel) ⟨Nat.le_of_ble_eq_true rfl, Nat.le_of_ble_eq_true rfl⟩) (mP_V (ci := 5) (cutLW_X5_0_1_2_3_4_5_6 _ _ _ _ _ _ _ _ _ _ _ _ st0 st0 st0 st0 st0 st0 st0) hP hD (hK.sub [0, 1] rfl) hG rfl (gX5_0 _ _ _ _ _ _ _ _ _ _)) rfl rfl hl.1 rfl (lv_room (Nat.le_of_ble_eq_true rfl)) dL_trunk_6 ⟨Nat.le_of_ble_eq_true rfl, Nat.le_of_ble_eq_true rfl⟩) (cutLW_X5_0_1_2_3_4_5_6 _ _ _ _ _ _ _ _ _ _ _ _ _ _ _ _ _ _ _) hP hD hS hA (fun H locs hP hD hS => ?_)
    refine lv_goto (tgt := 20) hx hb dL_trunk_9 (by decide) ?_
    refine lv_iconst (v := 0) hx hb dL_trunk_20 (by decide) ?_
    exact hR _ ls H locs _ _ _ _ (congrArg (fun q => q.1) (Option.some.inj hf)) (congrArg (fun q => (wLW cI cZ cJ A cs cw ct cu (q.2) cb cp co)) (Option.some.inj hf)) (by decide) (by decide) dL_trunk_21 hP hD hS
  · refine clx_v (k := kx) (vx_runV (As := [.int x1, .int x2, .int x3, .int x4]) (rest := []) S (xX5_trunk l hfl D cI cZ (aLW_X5_0_1_2_3_4_5_6 A) cs cw ct cu cl cb cp x1 x2 x3 x4 H.size kx h6) (cwV 4 hts gL_trunk_X5_trunk rfl rfl rfl (by decide +kernel) ⟨Nat.le_of_ble_eq_true rfl, Nat.le_of_ble_eq_true rfl⟩) (xP_V (ci := 5) (cutLW_X5_0_1_2_3_4_5_6 _ _ _ _ _ _ _ _ _ _ _ _ st0 st0 st0 st0 st0 st0 st0) hP hD hS hA (hK.sub [0, 1] rfl) hG hX hZ rfl (gX5_0 _ _ _ _ _ _ _ _ _ _)) rfl rfl hl.1 rfl (lv_room (Nat.le_of_ble_eq_true rfl)) dL_trunk_6 ⟨Nat.le_of_ble_eq_true rfl, Nat.le_of_ble_eq_true rfl⟩) (cutLW_X5_0_1_2_3_4_5_6 _ _ _ _ _ _ _ _ _ _ _ _ _ _ _ _ _ _ _) rfl hP hD hS hA (fun E ce q9 H locs hE hce hcv hcl hP hD hS => ?_)
    subst hE
    by_cases e1 : kx = 1
    · have hf := if_t e1 hf
      subst e1
      refine vx_catch (own := RL) (name := xn 1) hown [] (⟨0, 9, 12, 13⟩ : ExceptionTableEntry) [(⟨0, 9, 16, 15⟩ : ExceptionTableEntry)] (by rw [hex]; rfl) (fun z hz => absurd hz List.not_mem_nil) (by decide) (by decide) cc1 (va_any rfl (hX.2.1 1 (by decide))) hce hcv hcl ?_
      refine lv_astore (lv' := [(5, .ref q9), (0, .ref (A 0)), (1, .int x1), (2, .int x2), (3, .int x3), (4, .int x4)]) hx hb dL_trunk_12 hl (by decide) rfl (fun ls hl => ?_)
      refine lv_iconst (v := 1) hx hb dL_trunk_14 (by decide) ?_
      exact hR _ ls H locs _ _ _ _ (congrArg (fun q => q.1) (Option.some.inj hf)) (congrArg (fun q => (wLW cI cZ cJ A cs cw ct cu (q.2) cb cp co)) (Option.some.inj hf)) (by decide) (by decide) dL_trunk_15 hP hD hS
    have hf := if_f e1 hf
    by_cases e2 : kx = 2
    · have hf := if_t e2 hf
      subst e2
      refine vx_catch (own := RL) (name := xn 2) hown [(⟨0, 9, 12, 13⟩ : ExceptionTableEntry)] (⟨0, 9, 16, 15⟩ : ExceptionTableEntry) [] (by rw [hex]; rfl) (List.forall_mem_cons.mpr ⟨Or.inr ⟨by decide, xn 1, cc1, hX.2.2.1 (2, 1) (by decide)⟩, (fun z hz => absurd hz List.not_mem_nil)⟩) (by decide) (by decide) cc2 (va_any rfl (hX.2.1 2 (by decide))) hce hcv hcl ?_
      refine lv_astore (lv' := [(5, .ref q9), (0, .ref (A 0)), (1, .int x1), (2, .int x2), (3, .int x3), (4, .int x4)]) hx hb dL_trunk_16 hl (by decide) rfl (fun ls hl => ?_)
      refine lv_iconst (v := 2) hx hb dL_trunk_18 (by decide) ?_
      exact hR _ ls H locs _ _ _ _ (congrArg (fun q => q.1) (Option.some.inj hf)) (congrArg (fun q => (wLW cI cZ cJ A cs cw ct cu (q.2) cb cp co)) (Option.some.inj hf)) (by decide) (by decide) dL_trunk_19 hP hD hS
    have hf := if_f e2 hf
    cases hf
set_option maxHeartbeats 4000000 in
set_option maxRecDepth 100000 in
theorem mL_limit (l : Launch) (hfl : l.stackTraces = false) (D : va_G) (cI cZ cJ : ClassId) (A : Nat → Nat) (cs : St) (cw : St) (ct : St) (cu : St) (cl : St) (cb : St) (cp : St) (co : Nat → Int64) (x1 : Int32) (sz : Nat) (res : Int32 × St × (Nat → Int64)) (hf : fL_limit cs co x1 = some res) : Met l yL_limit wsL_limit ({ frames := 8, cells := 1, slots := 6, locals := 140 }) (xP D (tysL cI cZ cJ) [.ref (A 0), .int x1, .ref (A 53)] (wLW cI cZ cJ A cs cw ct cu cl cb cp co) sz) (mQi D res.1 (wLW cI cZ cJ A cs cw ct cu cl cb cp co) (wLW cI cZ cJ A (res.2.1) cw ct cu cl cb cp (res.2.2)) sz) 1 6 (va_A (wLW cI cZ cJ A cs cw ct cu cl cb cp co) sz) := by
  refine mkW (cc := cL_limit) (maxL := 4) (by decide +kernel) rfl rfl (Nat.le_of_ble_eq_true rfl) ?_
  intro p e s m args below meth c A0 Q S hK hG hX hZ hA hex hR
  obtain ⟨hx, hb, hml, hown, hts⟩ := id S
  have cc2 := hts (.classLink RL 15 (xn 2)) (by decide +kernel)
  intro H locs hP hD hS ls hl
  have hl : lv_has ls 4 [(0, .ref (A 0)), (1, .int x1), (2, .ref (A 53))] := hl
  unfold fL_limit at hf
  refine lv_aload_n hx hb dL_limit_0 rfl (lv_at hl 2 rfl) ?_
  refine lv_iconst (v := 0) hx hb dL_limit_1 (by decide) ?_
  refine lv_aload_n hx hb dL_limit_2 rfl (lv_at hl 0 rfl) ?_
  refine lv_iload_n hx hb dL_limit_3 rfl (lv_at hl 1 rfl) ?_
  rcases hx_t hf with ⟨q4, h4, hf⟩ | ⟨kx, h4, hf⟩
  · refine cl_i (va_runV (As := [.int x1]) (rest := [.int 0, .ref (A 53)]) S (mX5_limit l D cI cZ (aLW_X5_0_1_2_3_4_5_6 A) cs cw ct cu cl cb cp x1 H.size q4 h4) (cwV 1 hts gL_limit_X5_limit rfl rfl rfl (by decide +kernel) ⟨Nat.le_of_ble_eq_true rfl, Nat.le_of_ble_eq_true rfl⟩) (mP_V (ci := 5) (cutLW_X5_0_1_2_3_4_5_6 _ _ _ _ _ _ _ _ _ _ _ _ st0 st0 st0 st0 st0 st0 st0) hP hD (hK.sub [0, 1] rfl) hG rfl (gX5_0 _ _ _ _ _ _ _ _ _ _)) rfl rfl hl.1 rfl (lv_room (Nat.le_of_ble_eq_true rfl)) dL_limit_4 ⟨Nat.le_of_ble_eq_true rfl, Nat.le_of_ble_eq_true rfl⟩) (cutLW_X5_0_1_2_3_4_5_6 _ _ _ _ _ _ _ _ _ _ _ _ _ _ _ _ _ _ _) hP hD hS hA (fun H locs hP hD hS => ?_)
    refine lv_i2l hx hb dL_limit_7 rfl ?_
    refine st_l hx hb hK hP hD hS 53 2 (sLW_53 _ _ _ _ _ _ _ _ _ _ _ _ _ _) (gLW_53 _ _ _ _ _ _ _ _ _ _ _ _) rfl (by decide) dL_limit_8 (fun H locs hP hD hS => ?_)
    refine lv_goto (tgt := 15) hx hb dL_limit_9 (by decide) ?_
    refine lv_iconst (v := 0) hx hb dL_limit_15 (by decide) ?_
    exact hR _ ls H locs _ _ _ _ (congrArg (fun q => q.1) (Option.some.inj hf)) (congrArg (fun q => (wLW cI cZ cJ A (q.2.1) cw ct cu cl cb cp (q.2.2))) (Option.some.inj hf)) (by decide) (by decide) dL_limit_16 hP hD hS
  · refine clx_i (k := kx) (vx_runV (As := [.int x1]) (rest := [.int 0, .ref (A 53)]) S (xX5_limit l hfl D cI cZ (aLW_X5_0_1_2_3_4_5_6 A) cs cw ct cu cl cb cp x1 H.size kx h4) (cwV 1 hts gL_limit_X5_limit rfl rfl rfl (by decide +kernel) ⟨Nat.le_of_ble_eq_true rfl, Nat.le_of_ble_eq_true rfl⟩) (xP_V (ci := 5) (cutLW_X5_0_1_2_3_4_5_6 _ _ _ _ _ _ _ _ _ _ _ _ st0 st0 st0 st0 st0 st0 st0) hP hD hS hA (hK.sub [0, 1] rfl) hG hX hZ rfl (gX5_0 _ _ _ _ _ _ _ _ _ _)) rfl rfl hl.1 rfl (lv_room (Nat.le_of_ble_eq_true rfl)) dL_limit_4 ⟨Nat.le_of_ble_eq_true rfl, Nat.le_of_ble_eq_true rfl⟩) (cutLW_X5_0_1_2_3_4_5_6 _ _ _ _ _ _ _ _ _ _ _ _ _ _ _ _ _ _ _) rfl hP hD hS hA (fun E ce q9 H locs hE hce hcv hcl hP hD hS => ?_)
    subst hE
    by_cases e2 : kx = 2
    · have hf := if_t e2 hf
      subst e2
      refine vx_catch (own := RL) (name := xn 2) hown [] (⟨0, 9, 12, 15⟩ : ExceptionTableEntry) [] (by rw [hex]; rfl) (fun z hz => absurd hz List.not_mem_nil) (by decide) (by decide) cc2 (va_any rfl (hX.2.1 2 (by decide))) hce hcv hcl ?_
      refine lv_astore_n (lv' := [(3, .ref q9), (0, .ref (A 0)), (1, .int x1), (2, .ref (A 53))]) hx hb dL_limit_12 rfl hl (by decide) rfl (fun ls hl => ?_)
      refine lv_iconst (v := 1) hx hb dL_limit_13 (by decide) ?_
      exact hR _ ls H locs _ _ _ _ (congrArg (fun q => q.1) (Option.some.inj hf)) (congrArg (fun q => (wLW cI cZ cJ A (q.2.1) cw ct cu cl cb cp (q.2.2))) (Option.some.inj hf)) (by decide) (by decide) dL_limit_14 hP hD hS
    have hf := if_f e2 hf
    cases hf
set_option maxHeartbeats 4000000 in
set_option maxRecDepth 100000 in
theorem mL_beat (l : Launch) (hfl : l.stackTraces = false) (D : va_G) (cI cZ cJ : ClassId) (A : Nat → Nat) (cs : St) (cw : St) (ct : St) (cu : St) (cl : St) (cb : St) (cp : St) (co : Nat → Int64) (x1 : Int32) (sz : Nat) (res : Int32 × St × St × St × (Nat → Int64)) (hf : fL_beat cs cw ct cb co x1 = some res) : Met l yL_beat wsL_beat ({ frames := 8, cells := 1, slots := 6, locals := 157 }) (xP D (tysL cI cZ cJ) [.ref (A 0), .int x1, .ref (A 53)] (wLW cI cZ cJ A cs cw ct cu cl cb cp co) sz) (mQi D res.1 (wLW cI cZ cJ A cs cw ct cu cl cb cp co) (wLW cI cZ cJ A (res.2.1) cw (res.2.2.1) cu cl (res.2.2.2.1) cp (res.2.2.2.2)) sz) 1 6 (va_A (wLW cI cZ cJ A cs cw ct cu cl cb cp co) sz) := by
  refine mkW (cc := cL_beat) (maxL := 4) (by decide +kernel) rfl rfl (Nat.le_of_ble_eq_true rfl) ?_
  intro p e s m args below meth c A0 Q S hK hG hX hZ hA hex hR
  obtain ⟨hx, hb, hml, hown, hts⟩ := id S
  have cc2 := hts (.classLink RL 15 (xn 2)) (by decide +kernel)
  intro H locs hP hD hS ls hl
  have hl : lv_has ls 4 [(0, .ref (A 0)), (1, .int x1), (2, .ref (A 53))] := hl
  unfold fL_beat at hf
  refine lv_aload_n hx hb dL_beat_0 rfl (lv_at hl 2 rfl) ?_
  refine lv_iconst (v := 0) hx hb dL_beat_1 (by decide) ?_
  refine lv_aload_n hx hb dL_beat_2 rfl (lv_at hl 0 rfl) ?_
  refine lv_iload_n hx hb dL_beat_3 rfl (lv_at hl 1 rfl) ?_
  rcases hx_t hf with ⟨q4, h4, hf⟩ | ⟨kx, h4, hf⟩
  · refine cl_i (va_runV (As := [.int x1]) (rest := [.int 0, .ref (A 53)]) S (mX5_beat l D cI cZ (aLW_X5_0_1_2_3_4_5_6 A) cs cw ct cu cl cb cp x1 H.size q4 h4) (cwV 1 hts gL_beat_X5_beat rfl rfl rfl (by decide +kernel) ⟨Nat.le_of_ble_eq_true rfl, Nat.le_of_ble_eq_true rfl⟩) (mP_V (ci := 5) (cutLW_X5_0_1_2_3_4_5_6 _ _ _ _ _ _ _ _ _ _ _ _ st0 st0 st0 st0 st0 st0 st0) hP hD (hK.sub [0, 1] rfl) hG rfl (gX5_0 _ _ _ _ _ _ _ _ _ _)) rfl rfl hl.1 rfl (lv_room (Nat.le_of_ble_eq_true rfl)) dL_beat_4 ⟨Nat.le_of_ble_eq_true rfl, Nat.le_of_ble_eq_true rfl⟩) (cutLW_X5_0_1_2_3_4_5_6 _ _ _ _ _ _ _ _ _ _ _ _ _ _ _ _ _ _ _) hP hD hS hA (fun H locs hP hD hS => ?_)
    refine lv_i2l hx hb dL_beat_7 rfl ?_
    refine st_l hx hb hK hP hD hS 53 2 (sLW_53 _ _ _ _ _ _ _ _ _ _ _ _ _ _) (gLW_53 _ _ _ _ _ _ _ _ _ _ _ _) rfl (by decide) dL_beat_8 (fun H locs hP hD hS => ?_)
    refine lv_goto (tgt := 15) hx hb dL_beat_9 (by decide) ?_
    refine lv_iconst (v := 0) hx hb dL_beat_15 (by decide) ?_
    exact hR _ ls H locs _ _ _ _ (congrArg (fun q => q.1) (Option.some.inj hf)) (congrArg (fun q => (wLW cI cZ cJ A (q.2.1) cw (q.2.2.1) cu cl (q.2.2.2.1) cp (q.2.2.2.2))) (Option.some.inj hf)) (by decide) (by decide) dL_beat_16 hP hD hS
  · refine clx_i (k := kx) (vx_runV (As := [.int x1]) (rest := [.int 0, .ref (A 53)]) S (xX5_beat l hfl D cI cZ (aLW_X5_0_1_2_3_4_5_6 A) cs cw ct cu cl cb cp x1 H.size kx h4) (cwV 1 hts gL_beat_X5_beat rfl rfl rfl (by decide +kernel) ⟨Nat.le_of_ble_eq_true rfl, Nat.le_of_ble_eq_true rfl⟩) (xP_V (ci := 5) (cutLW_X5_0_1_2_3_4_5_6 _ _ _ _ _ _ _ _ _ _ _ _ st0 st0 st0 st0 st0 st0 st0) hP hD hS hA (hK.sub [0, 1] rfl) hG hX hZ rfl (gX5_0 _ _ _ _ _ _ _ _ _ _)) rfl rfl hl.1 rfl (lv_room (Nat.le_of_ble_eq_true rfl)) dL_beat_4 ⟨Nat.le_of_ble_eq_true rfl, Nat.le_of_ble_eq_true rfl⟩) (cutLW_X5_0_1_2_3_4_5_6 _ _ _ _ _ _ _ _ _ _ _ _ _ _ _ _ _ _ _) rfl hP hD hS hA (fun E ce q9 H locs hE hce hcv hcl hP hD hS => ?_)
    subst hE
    by_cases e2 : kx = 2
    · have hf := if_t e2 hf
      subst e2
      refine vx_catch (own := RL) (name := xn 2) hown [] (⟨0, 9, 12, 15⟩ : ExceptionTableEntry) [] (by rw [hex]; rfl) (fun z hz => absurd hz List.not_mem_nil) (by decide) (by decide) cc2 (va_any rfl (hX.2.1 2 (by decide))) hce hcv hcl ?_
      refine lv_astore_n (lv' := [(3, .ref q9), (0, .ref (A 0)), (1, .int x1), (2, .ref (A 53))]) hx hb dL_beat_12 rfl hl (by decide) rfl (fun ls hl => ?_)
      refine lv_iconst (v := 1) hx hb dL_beat_13 (by decide) ?_
      exact hR _ ls H locs _ _ _ _ (congrArg (fun q => q.1) (Option.some.inj hf)) (congrArg (fun q => (wLW cI cZ cJ A (q.2.1) cw (q.2.2.1) cu cl (q.2.2.2.1) cp (q.2.2.2.2))) (Option.some.inj hf)) (by decide) (by decide) dL_beat_14 hP hD hS
    have hf := if_f e2 hf
    cases hf
set_option maxHeartbeats 4000000 in
set_option maxRecDepth 100000 in
theorem mL_send (l : Launch) (hfl : l.stackTraces = false) (D : va_G) (cI cZ cJ : ClassId) (A : Nat → Nat) (cs : St) (cw : St) (ct : St) (cu : St) (cl : St) (cb : St) (cp : St) (co : Nat → Int64) (x1 : Int32) (x2 : Int32) (x3 : Int32) (x4 : Int32) (sz : Nat) (res : Int32 × St × St × St × St × (Nat → Int64)) (hf : fL_send cs cw ct cl cb cp co x1 x2 x3 x4 = some res) : Met l yL_send wsL_send ({ frames := 8, cells := 1, slots := 6, locals := 152 }) (xP D (tysL cI cZ cJ) [.ref (A 0), .int x1, .int x2, .int x3, .int x4, .ref (A 53)] (wLW cI cZ cJ A cs cw ct cu cl cb cp co) sz) (mQi D res.1 (wLW cI cZ cJ A cs cw ct cu cl cb cp co) (wLW cI cZ cJ A (res.2.1) cw (res.2.2.1) cu cl (res.2.2.2.1) (res.2.2.2.2.1) (res.2.2.2.2.2)) sz) 1 6 (va_A (wLW cI cZ cJ A cs cw ct cu cl cb cp co) sz) := by
  refine mkW (cc := cL_send) (maxL := 7) (by decide +kernel) rfl rfl (Nat.le_of_ble_eq_true rfl) ?_
  intro p e s m args below meth c A0 Q S hK hG hX hZ hA hex hR
  obtain ⟨hx, hb, hml, hown, hts⟩ := id S
  have cc1 := hts (.classLink RL 13 (xn 1)) (by decide +kernel)
  have cc2 := hts (.classLink RL 15 (xn 2)) (by decide +kernel)
  have cc3 := hts (.classLink RL 17 (xn 3)) (by decide +kernel)
  intro H locs hP hD hS ls hl
  have hl : lv_has ls 7 [(0, .ref (A 0)), (1, .int x1), (2, .int x2), (3, .int x3), (4, .int x4), (5, .ref (A 53))] := hl
  unfold fL_send at hf
  refine lv_aload hx hb dL_send_0 (lv_at hl 5 rfl) ?_
  refine lv_iconst (v := 0) hx hb dL_send_2 (by decide) ?_
  refine lv_aload_n hx hb dL_send_3 rfl (lv_at hl 0 rfl) ?_
  refine lv_iload_n hx hb dL_send_4 rfl (lv_at hl 1 rfl) ?_
  refine lv_iload_n hx hb dL_send_5 rfl (lv_at hl 2 rfl) ?_
  refine lv_iload_n hx hb dL_send_6 rfl (lv_at hl 3 rfl) ?_
  refine lv_iload hx hb dL_send_7 (lv_at hl 4 rfl) ?_
  rcases hx_t hf with ⟨q9, h9, hf⟩ | ⟨kx, h9, hf⟩
  · refine cl_i (va_runV (As := [.int x1, .int x2, .int x3, .int x4]) (rest := [.int 0, .ref (A 53)]) S (mX5_send l D cI cZ (aLW_X5_0_1_2_3_4_5_6 A) cs cw ct cu cl cb cp x1 x2 x3 x4 H.size q9 h9) (cwV 4 hts gL_send_X5_send rfl rfl rfl (by decide +kernel) ⟨Nat.le_of_ble_eq_true rfl, Nat.le_of_ble_eq_true rfl⟩) (mP_V (ci := 5) (cutLW_X5_0_1_2_3_4_5_6 _ _ _ _ _ _ _ _ _ _ _ _ st0 st0 st0 st0 st0 st0 st0) hP hD (hK.sub [0, 1] rfl) hG rfl (gX5_0 _ _ _ _ _ _ _ _ _ _)) rfl rfl hl.1 rfl (lv_room (Nat.le_of_ble_eq_true rfl)) dL_send_9 ⟨Nat.le_of_ble_eq_true rfl, Nat.le_of_ble_eq_true rfl⟩) (cutLW_X5_0_1_2_3_4_5_6 _ _ _ _ _ _ _ _ _ _ _ _ _ _ _ _ _ _ _) hP hD hS hA (fun H locs hP hD hS => ?_)
    refine lv_i2l hx hb dL_send_12 rfl ?_
    refine st_l hx hb hK hP hD hS 53 2 (sLW_53 _ _ _ _ _ _ _ _ _ _ _ _ _ _) (gLW_53 _ _ _ _ _ _ _ _ _ _ _ _) rfl (by decide) dL_send_13 (fun H locs hP hD hS => ?_)
    refine lv_goto (tgt := 29) hx hb dL_send_14 (by decide) ?_
    refine lv_iconst (v := 0) hx hb dL_send_29 (by decide) ?_
    exact hR _ ls H locs _ _ _ _ (congrArg (fun q => q.1) (Option.some.inj hf)) (congrArg (fun q => (wLW cI cZ cJ A (q.2.1) cw (q.2.2.1) cu cl (q.2.2.2.1) (q.2.2.2.2.1) (q.2.2.2.2.2))) (Option.some.inj hf)) (by decide) (by decide) dL_send_30 hP hD hS
  · refine clx_i (k := kx) (vx_runV (As := [.int x1, .int x2, .int x3, .int x4]) (rest := [.int 0, .ref (A 53)]) S (xX5_send l hfl D cI cZ (aLW_X5_0_1_2_3_4_5_6 A) cs cw ct cu cl cb cp x1 x2 x3 x4 H.size kx h9) (cwV 4 hts gL_send_X5_send rfl rfl rfl (by decide +kernel) ⟨Nat.le_of_ble_eq_true rfl, Nat.le_of_ble_eq_true rfl⟩) (xP_V (ci := 5) (cutLW_X5_0_1_2_3_4_5_6 _ _ _ _ _ _ _ _ _ _ _ _ st0 st0 st0 st0 st0 st0 st0) hP hD hS hA (hK.sub [0, 1] rfl) hG hX hZ rfl (gX5_0 _ _ _ _ _ _ _ _ _ _)) rfl rfl hl.1 rfl (lv_room (Nat.le_of_ble_eq_true rfl)) dL_send_9 ⟨Nat.le_of_ble_eq_true rfl, Nat.le_of_ble_eq_true rfl⟩) (cutLW_X5_0_1_2_3_4_5_6 _ _ _ _ _ _ _ _ _ _ _ _ _ _ _ _ _ _ _) rfl hP hD hS hA (fun E ce q9 H locs hE hce hcv hcl hP hD hS => ?_)
    subst hE
    by_cases e1 : kx = 1
    · have hf := if_t e1 hf
      subst e1
      refine vx_catch (own := RL) (name := xn 1) hown [] (⟨0, 14, 17, 13⟩ : ExceptionTableEntry) [(⟨0, 14, 21, 15⟩ : ExceptionTableEntry), (⟨0, 14, 25, 17⟩ : ExceptionTableEntry)] (by rw [hex]; rfl) (fun z hz => absurd hz List.not_mem_nil) (by decide) (by decide) cc1 (va_any rfl (hX.2.1 1 (by decide))) hce hcv hcl ?_
      refine lv_astore (lv' := [(6, .ref q9), (0, .ref (A 0)), (1, .int x1), (2, .int x2), (3, .int x3), (4, .int x4), (5, .ref (A 53))]) hx hb dL_send_17 hl (by decide) rfl (fun ls hl => ?_)
      refine lv_iconst (v := 1) hx hb dL_send_19 (by decide) ?_
      exact hR _ ls H locs _ _ _ _ (congrArg (fun q => q.1) (Option.some.inj hf)) (congrArg (fun q => (wLW cI cZ cJ A (q.2.1) cw (q.2.2.1) cu cl (q.2.2.2.1) (q.2.2.2.2.1) (q.2.2.2.2.2))) (Option.some.inj hf)) (by decide) (by decide) dL_send_20 hP hD hS
    have hf := if_f e1 hf
    by_cases e2 : kx = 2
    · have hf := if_t e2 hf
      subst e2
      refine vx_catch (own := RL) (name := xn 2) hown [(⟨0, 14, 17, 13⟩ : ExceptionTableEntry)] (⟨0, 14, 21, 15⟩ : ExceptionTableEntry) [(⟨0, 14, 25, 17⟩ : ExceptionTableEntry)] (by rw [hex]; rfl) (List.forall_mem_cons.mpr ⟨Or.inr ⟨by decide, xn 1, cc1, hX.2.2.1 (2, 1) (by decide)⟩, (fun z hz => absurd hz List.not_mem_nil)⟩) (by decide) (by decide) cc2 (va_any rfl (hX.2.1 2 (by decide))) hce hcv hcl ?_
      refine lv_astore (lv' := [(6, .ref q9), (0, .ref (A 0)), (1, .int x1), (2, .int x2), (3, .int x3), (4, .int x4), (5, .ref (A 53))]) hx hb dL_send_21 hl (by decide) rfl (fun ls hl => ?_)
      refine lv_iconst (v := 2) hx hb dL_send_23 (by decide) ?_
      exact hR _ ls H locs _ _ _ _ (congrArg (fun q => q.1) (Option.some.inj hf)) (congrArg (fun q => (wLW cI cZ cJ A (q.2.1) cw (q.2.2.1) cu cl (q.2.2.2.1) (q.2.2.2.2.1) (q.2.2.2.2.2))) (Option.some.inj hf)) (by decide) (by decide) dL_send_24 hP hD hS
    have hf := if_f e2 hf
    by_cases e3 : kx = 3
    · have hf := if_t e3 hf
      subst e3
      refine vx_catch (own := RL) (name := xn 3) hown [(⟨0, 14, 17, 13⟩ : ExceptionTableEntry), (⟨0, 14, 21, 15⟩ : ExceptionTableEntry)] (⟨0, 14, 25, 17⟩ : ExceptionTableEntry) [] (by rw [hex]; rfl) (List.forall_mem_cons.mpr ⟨Or.inr ⟨by decide, xn 1, cc1, hX.2.2.1 (3, 1) (by decide)⟩, (List.forall_mem_cons.mpr ⟨Or.inr ⟨by decide, xn 2, cc2, hX.2.2.1 (3, 2) (by decide)⟩, (fun z hz => absurd hz List.not_mem_nil)⟩)⟩) (by decide) (by decide) cc3 (va_any rfl (hX.2.1 3 (by decide))) hce hcv hcl ?_
      refine lv_astore (lv' := [(6, .ref q9), (0, .ref (A 0)), (1, .int x1), (2, .int x2), (3, .int x3), (4, .int x4), (5, .ref (A 53))]) hx hb dL_send_25 hl (by decide) rfl (fun ls hl => ?_)
      refine lv_iconst (v := 3) hx hb dL_send_27 (by decide) ?_
      exact hR _ ls H locs _ _ _ _ (congrArg (fun q => q.1) (Option.some.inj hf)) (congrArg (fun q => (wLW cI cZ cJ A (q.2.1) cw (q.2.2.1) cu cl (q.2.2.2.1) (q.2.2.2.2.1) (q.2.2.2.2.2))) (Option.some.inj hf)) (by decide) (by decide) dL_send_28 hP hD hS
    have hf := if_f e3 hf
    cases hf
set_option maxHeartbeats 4000000 in
set_option maxRecDepth 100000 in
theorem mL_holds (l : Launch) (hfl : l.stackTraces = false) (D : va_G) (cI cZ cJ : ClassId) (A : Nat → Nat) (cs : St) (cw : St) (ct : St) (cu : St) (cl : St) (cb : St) (cp : St) (co : Nat → Int64) (x1 : Int32) (x2 : Int32) (sz : Nat) (res : Int32 × (Nat → Int64)) (hf : fL_holds ct cb co x1 x2 = some res) : Met l yL_holds wsL_holds ({ frames := 8, cells := 1, slots := 6, locals := 138 }) (xP D (tysL cI cZ cJ) [.ref (A 0), .int x1, .int x2, .ref (A 53)] (wLW cI cZ cJ A cs cw ct cu cl cb cp co) sz) (mQi D res.1 (wLW cI cZ cJ A cs cw ct cu cl cb cp co) (wLW cI cZ cJ A cs cw ct cu cl cb cp (res.2)) sz) 1 6 (va_A (wLW cI cZ cJ A cs cw ct cu cl cb cp co) sz) := by
  refine mkW (cc := cL_holds) (maxL := 5) (by decide +kernel) rfl rfl (Nat.le_of_ble_eq_true rfl) ?_
  intro p e s m args below meth c A0 Q S hK hG hX hZ hA hex hR
  obtain ⟨hx, hb, hml, hown, hts⟩ := id S
  have cc1 := hts (.classLink RL 13 (xn 1)) (by decide +kernel)
  have cc2 := hts (.classLink RL 15 (xn 2)) (by decide +kernel)
  intro H locs hP hD hS ls hl
  have hl : lv_has ls 5 [(0, .ref (A 0)), (1, .int x1), (2, .int x2), (3, .ref (A 53))] := hl
  unfold fL_holds at hf
  refine lv_aload_n hx hb dL_holds_0 rfl (lv_at hl 3 rfl) ?_
  refine lv_iconst (v := 0) hx hb dL_holds_1 (by decide) ?_
  refine lv_aload_n hx hb dL_holds_2 rfl (lv_at hl 0 rfl) ?_
  refine lv_iload_n hx hb dL_holds_3 rfl (lv_at hl 1 rfl) ?_
  refine lv_iload_n hx hb dL_holds_4 rfl (lv_at hl 2 rfl) ?_
  rcases hx_t hf with ⟨q5, h5, hf⟩ | ⟨kx, h5, hf⟩
  · refine cl_i (va_runV (As := [.int x1, .int x2]) (rest := [.int 0, .ref (A 53)]) S (mX5_holds l D cI cZ (aLW_X5_0_1_2_3_4_5_6 A) cs cw ct cu cl cb cp x1 x2 H.size q5 h5) (cwV 2 hts gL_holds_X5_holds rfl rfl rfl (by decide +kernel) ⟨Nat.le_of_ble_eq_true rfl, Nat.le_of_ble_eq_true rfl⟩) (mP_V (ci := 5) (cutLW_X5_0_1_2_3_4_5_6 _ _ _ _ _ _ _ _ _ _ _ _ st0 st0 st0 st0 st0 st0 st0) hP hD (hK.sub [0, 1] rfl) hG rfl (gX5_0 _ _ _ _ _ _ _ _ _ _)) rfl rfl hl.1 rfl (lv_room (Nat.le_of_ble_eq_true rfl)) dL_holds_5 ⟨Nat.le_of_ble_eq_true rfl, Nat.le_of_ble_eq_true rfl⟩) (cutLW_X5_0_1_2_3_4_5_6 _ _ _ _ _ _ _ _ _ _ _ _ _ _ _ _ _ _ _) hP hD hS hA (fun H locs hP hD hS => ?_)
    refine lv_i2l hx hb dL_holds_8 rfl ?_
    refine st_l hx hb hK hP hD hS 53 2 (sLW_53 _ _ _ _ _ _ _ _ _ _ _ _ _ _) (gLW_53 _ _ _ _ _ _ _ _ _ _ _ _) rfl (by decide) dL_holds_9 (fun H locs hP hD hS => ?_)
    refine lv_goto (tgt := 21) hx hb dL_holds_10 (by decide) ?_
    refine lv_iconst (v := 0) hx hb dL_holds_21 (by decide) ?_
    exact hR _ ls H locs _ _ _ _ (congrArg (fun q => q.1) (Option.some.inj hf)) (congrArg (fun q => (wLW cI cZ cJ A cs cw ct cu cl cb cp (q.2))) (Option.some.inj hf)) (by decide) (by decide) dL_holds_22 hP hD hS
  · refine clx_i (k := kx) (vx_runV (As := [.int x1, .int x2]) (rest := [.int 0, .ref (A 53)]) S (xX5_holds l hfl D cI cZ (aLW_X5_0_1_2_3_4_5_6 A) cs cw ct cu cl cb cp x1 x2 H.size kx h5) (cwV 2 hts gL_holds_X5_holds rfl rfl rfl (by decide +kernel) ⟨Nat.le_of_ble_eq_true rfl, Nat.le_of_ble_eq_true rfl⟩) (xP_V (ci := 5) (cutLW_X5_0_1_2_3_4_5_6 _ _ _ _ _ _ _ _ _ _ _ _ st0 st0 st0 st0 st0 st0 st0) hP hD hS hA (hK.sub [0, 1] rfl) hG hX hZ rfl (gX5_0 _ _ _ _ _ _ _ _ _ _)) rfl rfl hl.1 rfl (lv_room (Nat.le_of_ble_eq_true rfl)) dL_holds_5 ⟨Nat.le_of_ble_eq_true rfl, Nat.le_of_ble_eq_true rfl⟩) (cutLW_X5_0_1_2_3_4_5_6 _ _ _ _ _ _ _ _ _ _ _ _ _ _ _ _ _ _ _) rfl hP hD hS hA (fun E ce q9 H locs hE hce hcv hcl hP hD hS => ?_)
    subst hE
    by_cases e1 : kx = 1
    · have hf := if_t e1 hf
      subst e1
      refine vx_catch (own := RL) (name := xn 1) hown [] (⟨0, 10, 13, 13⟩ : ExceptionTableEntry) [(⟨0, 10, 17, 15⟩ : ExceptionTableEntry)] (by rw [hex]; rfl) (fun z hz => absurd hz List.not_mem_nil) (by decide) (by decide) cc1 (va_any rfl (hX.2.1 1 (by decide))) hce hcv hcl ?_
      refine lv_astore (lv' := [(4, .ref q9), (0, .ref (A 0)), (1, .int x1), (2, .int x2), (3, .ref (A 53))]) hx hb dL_holds_13 hl (by decide) rfl (fun ls hl => ?_)
      refine lv_iconst (v := 1) hx hb dL_holds_15 (by decide) ?_
      exact hR _ ls H locs _ _ _ _ (congrArg (fun q => q.1) (Option.some.inj hf)) (congrArg (fun q => (wLW cI cZ cJ A cs cw ct cu cl cb cp (q.2))) (Option.some.inj hf)) (by decide) (by decide) dL_holds_16 hP hD hS
    have hf := if_f e1 hf
    by_cases e2 : kx = 2
    · have hf := if_t e2 hf
      subst e2
      refine vx_catch (own := RL) (name := xn 2) hown [(⟨0, 10, 13, 13⟩ : ExceptionTableEntry)] (⟨0, 10, 17, 15⟩ : ExceptionTableEntry) [] (by rw [hex]; rfl) (List.forall_mem_cons.mpr ⟨Or.inr ⟨by decide, xn 1, cc1, hX.2.2.1 (2, 1) (by decide)⟩, (fun z hz => absurd hz List.not_mem_nil)⟩) (by decide) (by decide) cc2 (va_any rfl (hX.2.1 2 (by decide))) hce hcv hcl ?_
      refine lv_astore (lv' := [(4, .ref q9), (0, .ref (A 0)), (1, .int x1), (2, .int x2), (3, .ref (A 53))]) hx hb dL_holds_17 hl (by decide) rfl (fun ls hl => ?_)
      refine lv_iconst (v := 2) hx hb dL_holds_19 (by decide) ?_
      exact hR _ ls H locs _ _ _ _ (congrArg (fun q => q.1) (Option.some.inj hf)) (congrArg (fun q => (wLW cI cZ cJ A cs cw ct cu cl cb cp (q.2))) (Option.some.inj hf)) (by decide) (by decide) dL_holds_20 hP hD hS
    have hf := if_f e2 hf
    cases hf
set_option maxHeartbeats 4000000 in
set_option maxRecDepth 100000 in
theorem mL_port (l : Launch) (hfl : l.stackTraces = false) (D : va_G) (cI cZ cJ : ClassId) (A : Nat → Nat) (cs : St) (cw : St) (ct : St) (cu : St) (cl : St) (cb : St) (cp : St) (co : Nat → Int64) (x1 : Int32) (x2 : Int32) (x3 : Int32) (sz : Nat) (res : Int32 × (Nat → Int64)) (hf : fL_port cs ct co x1 x2 x3 = some res) : Met l yL_port wsL_port ({ frames := 9, cells := 1, slots := 6, locals := 161 }) (xP D (tysL cI cZ cJ) [.ref (A 0), .int x1, .int x2, .int x3, .ref (A 53)] (wLW cI cZ cJ A cs cw ct cu cl cb cp co) sz) (mQi D res.1 (wLW cI cZ cJ A cs cw ct cu cl cb cp co) (wLW cI cZ cJ A cs cw ct cu cl cb cp (res.2)) sz) 1 6 (va_A (wLW cI cZ cJ A cs cw ct cu cl cb cp co) sz) := by
  refine mkW (cc := cL_port) (maxL := 6) (by decide +kernel) rfl rfl (Nat.le_of_ble_eq_true rfl) ?_
  intro p e s m args below meth c A0 Q S hK hG hX hZ hA hex hR
  obtain ⟨hx, hb, hml, hown, hts⟩ := id S
  have cc1 := hts (.classLink RL 13 (xn 1)) (by decide +kernel)
  have cc2 := hts (.classLink RL 15 (xn 2)) (by decide +kernel)
  intro H locs hP hD hS ls hl
  have hl : lv_has ls 6 [(0, .ref (A 0)), (1, .int x1), (2, .int x2), (3, .int x3), (4, .ref (A 53))] := hl
  unfold fL_port at hf
  refine lv_aload hx hb dL_port_0 (lv_at hl 4 rfl) ?_
  refine lv_iconst (v := 0) hx hb dL_port_2 (by decide) ?_
  refine lv_aload_n hx hb dL_port_3 rfl (lv_at hl 0 rfl) ?_
  refine lv_iload_n hx hb dL_port_4 rfl (lv_at hl 1 rfl) ?_
  refine lv_iload_n hx hb dL_port_5 rfl (lv_at hl 2 rfl) ?_
  refine lv_iload_n hx hb dL_port_6 rfl (lv_at hl 3 rfl) ?_
  rcases hx_t hf with ⟨q7, h7, hf⟩ | ⟨kx, h7, hf⟩
  · refine cl_i (va_runV (As := [.int x1, .int x2, .int x3]) (rest := [.int 0, .ref (A 53)]) S (mX5_port l D cI cZ (aLW_X5_0_1_2_3_4_5_6 A) cs cw ct cu cl cb cp x1 x2 x3 H.size q7 h7) (cwV 3 hts gL_port_X5_port rfl rfl rfl (by decide +kernel) ⟨Nat.le_of_ble_eq_true rfl, Nat.le_of_ble_eq_true rfl⟩) (mP_V (ci := 5) (cutLW_X5_0_1_2_3_4_5_6 _ _ _ _ _ _ _ _ _ _ _ _ st0 st0 st0 st0 st0 st0 st0) hP hD (hK.sub [0, 1] rfl) hG rfl (gX5_0 _ _ _ _ _ _ _ _ _ _)) rfl rfl hl.1 rfl (lv_room (Nat.le_of_ble_eq_true rfl)) dL_port_7 ⟨Nat.le_of_ble_eq_true rfl, Nat.le_of_ble_eq_true rfl⟩) (cutLW_X5_0_1_2_3_4_5_6 _ _ _ _ _ _ _ _ _ _ _ _ _ _ _ _ _ _ _) hP hD hS hA (fun H locs hP hD hS => ?_)
    refine lv_i2l hx hb dL_port_10 rfl ?_
    refine st_l hx hb hK hP hD hS 53 2 (sLW_53 _ _ _ _ _ _ _ _ _ _ _ _ _ _) (gLW_53 _ _ _ _ _ _ _ _ _ _ _ _) rfl (by decide) dL_port_11 (fun H locs hP hD hS => ?_)
    refine lv_goto (tgt := 23) hx hb dL_port_12 (by decide) ?_
    refine lv_iconst (v := 0) hx hb dL_port_23 (by decide) ?_
    exact hR _ ls H locs _ _ _ _ (congrArg (fun q => q.1) (Option.some.inj hf)) (congrArg (fun q => (wLW cI cZ cJ A cs cw ct cu cl cb cp (q.2))) (Option.some.inj hf)) (by decide) (by decide) dL_port_24 hP hD hS
  · refine clx_i (k := kx) (vx_runV (As := [.int x1, .int x2, .int x3]) (rest := [.int 0, .ref (A 53)]) S (xX5_port l hfl D cI cZ (aLW_X5_0_1_2_3_4_5_6 A) cs cw ct cu cl cb cp x1 x2 x3 H.size kx h7) (cwV 3 hts gL_port_X5_port rfl rfl rfl (by decide +kernel) ⟨Nat.le_of_ble_eq_true rfl, Nat.le_of_ble_eq_true rfl⟩) (xP_V (ci := 5) (cutLW_X5_0_1_2_3_4_5_6 _ _ _ _ _ _ _ _ _ _ _ _ st0 st0 st0 st0 st0 st0 st0) hP hD hS hA (hK.sub [0, 1] rfl) hG hX hZ rfl (gX5_0 _ _ _ _ _ _ _ _ _ _)) rfl rfl hl.1 rfl (lv_room (Nat.le_of_ble_eq_true rfl)) dL_port_7 ⟨Nat.le_of_ble_eq_true rfl, Nat.le_of_ble_eq_true rfl⟩) (cutLW_X5_0_1_2_3_4_5_6 _ _ _ _ _ _ _ _ _ _ _ _ _ _ _ _ _ _ _) rfl hP hD hS hA (fun E ce q9 H locs hE hce hcv hcl hP hD hS => ?_)
    subst hE
    by_cases e1 : kx = 1
    · have hf := if_t e1 hf
      subst e1
      refine vx_catch (own := RL) (name := xn 1) hown [] (⟨0, 12, 15, 13⟩ : ExceptionTableEntry) [(⟨0, 12, 19, 15⟩ : ExceptionTableEntry)] (by rw [hex]; rfl) (fun z hz => absurd hz List.not_mem_nil) (by decide) (by decide) cc1 (va_any rfl (hX.2.1 1 (by decide))) hce hcv hcl ?_
      refine lv_astore (lv' := [(5, .ref q9), (0, .ref (A 0)), (1, .int x1), (2, .int x2), (3, .int x3), (4, .ref (A 53))]) hx hb dL_port_15 hl (by decide) rfl (fun ls hl => ?_)
      refine lv_iconst (v := 1) hx hb dL_port_17 (by decide) ?_
      exact hR _ ls H locs _ _ _ _ (congrArg (fun q => q.1) (Option.some.inj hf)) (congrArg (fun q => (wLW cI cZ cJ A cs cw ct cu cl cb cp (q.2))) (Option.some.inj hf)) (by decide) (by decide) dL_port_18 hP hD hS
    have hf := if_f e1 hf
    by_cases e2 : kx = 2
    · have hf := if_t e2 hf
      subst e2
      refine vx_catch (own := RL) (name := xn 2) hown [(⟨0, 12, 15, 13⟩ : ExceptionTableEntry)] (⟨0, 12, 19, 15⟩ : ExceptionTableEntry) [] (by rw [hex]; rfl) (List.forall_mem_cons.mpr ⟨Or.inr ⟨by decide, xn 1, cc1, hX.2.2.1 (2, 1) (by decide)⟩, (fun z hz => absurd hz List.not_mem_nil)⟩) (by decide) (by decide) cc2 (va_any rfl (hX.2.1 2 (by decide))) hce hcv hcl ?_
      refine lv_astore (lv' := [(5, .ref q9), (0, .ref (A 0)), (1, .int x1), (2, .int x2), (3, .int x3), (4, .ref (A 53))]) hx hb dL_port_19 hl (by decide) rfl (fun ls hl => ?_)
      refine lv_iconst (v := 2) hx hb dL_port_21 (by decide) ?_
      exact hR _ ls H locs _ _ _ _ (congrArg (fun q => q.1) (Option.some.inj hf)) (congrArg (fun q => (wLW cI cZ cJ A cs cw ct cu cl cb cp (q.2))) (Option.some.inj hf)) (by decide) (by decide) dL_port_22 hP hD hS
    have hf := if_f e2 hf
    cases hf
set_option maxHeartbeats 4000000 in
set_option maxRecDepth 100000 in
theorem mL_table (l : Launch) (hfl : l.stackTraces = false) (D : va_G) (cI cZ cJ : ClassId) (A : Nat → Nat) (cs : St) (cw : St) (ct : St) (cu : St) (cl : St) (cb : St) (cp : St) (co : Nat → Int64) (x1 : Int32) (x2 : Int32) (x3 : Int32) (sz : Nat) (res : Int32 × (Nat → Int64)) (hf : fL_table cb co x1 x2 x3 = some res) : Met l yL_table wsL_table ({ frames := 8, cells := 1, slots := 6, locals := 139 }) (xP D (tysL cI cZ cJ) [.ref (A 0), .int x1, .int x2, .int x3, .ref (A 53)] (wLW cI cZ cJ A cs cw ct cu cl cb cp co) sz) (mQi D res.1 (wLW cI cZ cJ A cs cw ct cu cl cb cp co) (wLW cI cZ cJ A cs cw ct cu cl cb cp (res.2)) sz) 1 6 (va_A (wLW cI cZ cJ A cs cw ct cu cl cb cp co) sz) := by
  refine mkW (cc := cL_table) (maxL := 6) (by decide +kernel) rfl rfl (Nat.le_of_ble_eq_true rfl) ?_
  intro p e s m args below meth c A0 Q S hK hG hX hZ hA hex hR
  obtain ⟨hx, hb, hml, hown, hts⟩ := id S
  have cc1 := hts (.classLink RL 13 (xn 1)) (by decide +kernel)
  intro H locs hP hD hS ls hl
  have hl : lv_has ls 6 [(0, .ref (A 0)), (1, .int x1), (2, .int x2), (3, .int x3), (4, .ref (A 53))] := hl
  unfold fL_table at hf
  refine lv_aload hx hb dL_table_0 (lv_at hl 4 rfl) ?_
  refine lv_iconst (v := 0) hx hb dL_table_2 (by decide) ?_
  refine lv_aload_n hx hb dL_table_3 rfl (lv_at hl 0 rfl) ?_
  refine lv_iload_n hx hb dL_table_4 rfl (lv_at hl 1 rfl) ?_
  refine lv_iload_n hx hb dL_table_5 rfl (lv_at hl 2 rfl) ?_
  refine lv_iload_n hx hb dL_table_6 rfl (lv_at hl 3 rfl) ?_
  rcases hx_t hf with ⟨q7, h7, hf⟩ | ⟨kx, h7, hf⟩
  · refine cl_i (va_runV (As := [.int x1, .int x2, .int x3]) (rest := [.int 0, .ref (A 53)]) S (mX5_table l D cI cZ (aLW_X5_0_1_2_3_4_5_6 A) cs cw ct cu cl cb cp x1 x2 x3 H.size q7 h7) (cwV 3 hts gL_table_X5_table rfl rfl rfl (by decide +kernel) ⟨Nat.le_of_ble_eq_true rfl, Nat.le_of_ble_eq_true rfl⟩) (mP_V (ci := 5) (cutLW_X5_0_1_2_3_4_5_6 _ _ _ _ _ _ _ _ _ _ _ _ st0 st0 st0 st0 st0 st0 st0) hP hD (hK.sub [0, 1] rfl) hG rfl (gX5_0 _ _ _ _ _ _ _ _ _ _)) rfl rfl hl.1 rfl (lv_room (Nat.le_of_ble_eq_true rfl)) dL_table_7 ⟨Nat.le_of_ble_eq_true rfl, Nat.le_of_ble_eq_true rfl⟩) (cutLW_X5_0_1_2_3_4_5_6 _ _ _ _ _ _ _ _ _ _ _ _ _ _ _ _ _ _ _) hP hD hS hA (fun H locs hP hD hS => ?_)
    refine lv_i2l hx hb dL_table_10 rfl ?_
    refine st_l hx hb hK hP hD hS 53 2 (sLW_53 _ _ _ _ _ _ _ _ _ _ _ _ _ _) (gLW_53 _ _ _ _ _ _ _ _ _ _ _ _) rfl (by decide) dL_table_11 (fun H locs hP hD hS => ?_)
    refine lv_goto (tgt := 19) hx hb dL_table_12 (by decide) ?_
    refine lv_iconst (v := 0) hx hb dL_table_19 (by decide) ?_
    exact hR _ ls H locs _ _ _ _ (congrArg (fun q => q.1) (Option.some.inj hf)) (congrArg (fun q => (wLW cI cZ cJ A cs cw ct cu cl cb cp (q.2))) (Option.some.inj hf)) (by decide) (by decide) dL_table_20 hP hD hS
  · refine clx_i (k := kx) (vx_runV (As := [.int x1, .int x2, .int x3]) (rest := [.int 0, .ref (A 53)]) S (xX5_table l hfl D cI cZ (aLW_X5_0_1_2_3_4_5_6 A) cs cw ct cu cl cb cp x1 x2 x3 H.size kx h7) (cwV 3 hts gL_table_X5_table rfl rfl rfl (by decide +kernel) ⟨Nat.le_of_ble_eq_true rfl, Nat.le_of_ble_eq_true rfl⟩) (xP_V (ci := 5) (cutLW_X5_0_1_2_3_4_5_6 _ _ _ _ _ _ _ _ _ _ _ _ st0 st0 st0 st0 st0 st0 st0) hP hD hS hA (hK.sub [0, 1] rfl) hG hX hZ rfl (gX5_0 _ _ _ _ _ _ _ _ _ _)) rfl rfl hl.1 rfl (lv_room (Nat.le_of_ble_eq_true rfl)) dL_table_7 ⟨Nat.le_of_ble_eq_true rfl, Nat.le_of_ble_eq_true rfl⟩) (cutLW_X5_0_1_2_3_4_5_6 _ _ _ _ _ _ _ _ _ _ _ _ _ _ _ _ _ _ _) rfl hP hD hS hA (fun E ce q9 H locs hE hce hcv hcl hP hD hS => ?_)
    subst hE
    by_cases e1 : kx = 1
    · have hf := if_t e1 hf
      subst e1
      refine vx_catch (own := RL) (name := xn 1) hown [] (⟨0, 12, 15, 13⟩ : ExceptionTableEntry) [] (by rw [hex]; rfl) (fun z hz => absurd hz List.not_mem_nil) (by decide) (by decide) cc1 (va_any rfl (hX.2.1 1 (by decide))) hce hcv hcl ?_
      refine lv_astore (lv' := [(5, .ref q9), (0, .ref (A 0)), (1, .int x1), (2, .int x2), (3, .int x3), (4, .ref (A 53))]) hx hb dL_table_15 hl (by decide) rfl (fun ls hl => ?_)
      refine lv_iconst (v := 1) hx hb dL_table_17 (by decide) ?_
      exact hR _ ls H locs _ _ _ _ (congrArg (fun q => q.1) (Option.some.inj hf)) (congrArg (fun q => (wLW cI cZ cJ A cs cw ct cu cl cb cp (q.2))) (Option.some.inj hf)) (by decide) (by decide) dL_table_18 hP hD hS
    have hf := if_f e1 hf
    cases hf
set_option maxHeartbeats 4000000 in
set_option maxRecDepth 100000 in
theorem mL_got (l : Launch) (hfl : l.stackTraces = false) (D : va_G) (cI cZ cJ : ClassId) (A : Nat → Nat) (cs : St) (cw : St) (ct : St) (cu : St) (cl : St) (cb : St) (cp : St) (co : Nat → Int64) (x1 : Int32) (x2 : Int32) (sz : Nat) (res : Int32 × (Nat → Int64)) (hf : fL_got cs co x1 x2 = some res) : Met l yL_got wsL_got ({ frames := 8, cells := 1, slots := 6, locals := 138 }) (xP D (tysL cI cZ cJ) [.ref (A 0), .int x1, .int x2, .ref (A 53)] (wLW cI cZ cJ A cs cw ct cu cl cb cp co) sz) (mQi D res.1 (wLW cI cZ cJ A cs cw ct cu cl cb cp co) (wLW cI cZ cJ A cs cw ct cu cl cb cp (res.2)) sz) 1 6 (va_A (wLW cI cZ cJ A cs cw ct cu cl cb cp co) sz) := by
  refine mkW (cc := cL_got) (maxL := 5) (by decide +kernel) rfl rfl (Nat.le_of_ble_eq_true rfl) ?_
  intro p e s m args below meth c A0 Q S hK hG hX hZ hA hex hR
  obtain ⟨hx, hb, hml, hown, hts⟩ := id S
  have cc1 := hts (.classLink RL 13 (xn 1)) (by decide +kernel)
  intro H locs hP hD hS ls hl
  have hl : lv_has ls 5 [(0, .ref (A 0)), (1, .int x1), (2, .int x2), (3, .ref (A 53))] := hl
  unfold fL_got at hf
  refine lv_aload_n hx hb dL_got_0 rfl (lv_at hl 3 rfl) ?_
  refine lv_iconst (v := 0) hx hb dL_got_1 (by decide) ?_
  refine lv_aload_n hx hb dL_got_2 rfl (lv_at hl 0 rfl) ?_
  refine lv_iload_n hx hb dL_got_3 rfl (lv_at hl 1 rfl) ?_
  refine lv_iload_n hx hb dL_got_4 rfl (lv_at hl 2 rfl) ?_
  rcases hx_t hf with ⟨q5, h5, hf⟩ | ⟨kx, h5, hf⟩
  · refine cl_i (va_runV (As := [.int x1, .int x2]) (rest := [.int 0, .ref (A 53)]) S (mX5_got l D cI cZ (aLW_X5_0_1_2_3_4_5_6 A) cs cw ct cu cl cb cp x1 x2 H.size q5 h5) (cwV 2 hts gL_got_X5_got rfl rfl rfl (by decide +kernel) ⟨Nat.le_of_ble_eq_true rfl, Nat.le_of_ble_eq_true rfl⟩) (mP_V (ci := 5) (cutLW_X5_0_1_2_3_4_5_6 _ _ _ _ _ _ _ _ _ _ _ _ st0 st0 st0 st0 st0 st0 st0) hP hD (hK.sub [0, 1] rfl) hG rfl (gX5_0 _ _ _ _ _ _ _ _ _ _)) rfl rfl hl.1 rfl (lv_room (Nat.le_of_ble_eq_true rfl)) dL_got_5 ⟨Nat.le_of_ble_eq_true rfl, Nat.le_of_ble_eq_true rfl⟩) (cutLW_X5_0_1_2_3_4_5_6 _ _ _ _ _ _ _ _ _ _ _ _ _ _ _ _ _ _ _) hP hD hS hA (fun H locs hP hD hS => ?_)
    refine lv_i2l hx hb dL_got_8 rfl ?_
    refine st_l hx hb hK hP hD hS 53 2 (sLW_53 _ _ _ _ _ _ _ _ _ _ _ _ _ _) (gLW_53 _ _ _ _ _ _ _ _ _ _ _ _) rfl (by decide) dL_got_9 (fun H locs hP hD hS => ?_)
    refine lv_goto (tgt := 17) hx hb dL_got_10 (by decide) ?_
    refine lv_iconst (v := 0) hx hb dL_got_17 (by decide) ?_
    exact hR _ ls H locs _ _ _ _ (congrArg (fun q => q.1) (Option.some.inj hf)) (congrArg (fun q => (wLW cI cZ cJ A cs cw ct cu cl cb cp (q.2))) (Option.some.inj hf)) (by decide) (by decide) dL_got_18 hP hD hS
  · refine clx_i (k := kx) (vx_runV (As := [.int x1, .int x2]) (rest := [.int 0, .ref (A 53)]) S (xX5_got l hfl D cI cZ (aLW_X5_0_1_2_3_4_5_6 A) cs cw ct cu cl cb cp x1 x2 H.size kx h5) (cwV 2 hts gL_got_X5_got rfl rfl rfl (by decide +kernel) ⟨Nat.le_of_ble_eq_true rfl, Nat.le_of_ble_eq_true rfl⟩) (xP_V (ci := 5) (cutLW_X5_0_1_2_3_4_5_6 _ _ _ _ _ _ _ _ _ _ _ _ st0 st0 st0 st0 st0 st0 st0) hP hD hS hA (hK.sub [0, 1] rfl) hG hX hZ rfl (gX5_0 _ _ _ _ _ _ _ _ _ _)) rfl rfl hl.1 rfl (lv_room (Nat.le_of_ble_eq_true rfl)) dL_got_5 ⟨Nat.le_of_ble_eq_true rfl, Nat.le_of_ble_eq_true rfl⟩) (cutLW_X5_0_1_2_3_4_5_6 _ _ _ _ _ _ _ _ _ _ _ _ _ _ _ _ _ _ _) rfl hP hD hS hA (fun E ce q9 H locs hE hce hcv hcl hP hD hS => ?_)
    subst hE
    by_cases e1 : kx = 1
    · have hf := if_t e1 hf
      subst e1
      refine vx_catch (own := RL) (name := xn 1) hown [] (⟨0, 10, 13, 13⟩ : ExceptionTableEntry) [] (by rw [hex]; rfl) (fun z hz => absurd hz List.not_mem_nil) (by decide) (by decide) cc1 (va_any rfl (hX.2.1 1 (by decide))) hce hcv hcl ?_
      refine lv_astore (lv' := [(4, .ref q9), (0, .ref (A 0)), (1, .int x1), (2, .int x2), (3, .ref (A 53))]) hx hb dL_got_13 hl (by decide) rfl (fun ls hl => ?_)
      refine lv_iconst (v := 1) hx hb dL_got_15 (by decide) ?_
      exact hR _ ls H locs _ _ _ _ (congrArg (fun q => q.1) (Option.some.inj hf)) (congrArg (fun q => (wLW cI cZ cJ A cs cw ct cu cl cb cp (q.2))) (Option.some.inj hf)) (by decide) (by decide) dL_got_16 hP hD hS
    have hf := if_f e1 hf
    cases hf
set_option maxHeartbeats 4000000 in
set_option maxRecDepth 100000 in
theorem mL_found (l : Launch) (hfl : l.stackTraces = false) (D : va_G) (cI cZ cJ : ClassId) (A : Nat → Nat) (cs : St) (cw : St) (ct : St) (cu : St) (cl : St) (cb : St) (cp : St) (co : Nat → Int64) (x1 : Int32) (sz : Nat) (res : Int32 × St × (Nat → Int64)) (hf : fL_found cw ct co x1 = some res) : Met l yL_found wsL_found ({ frames := 8, cells := 1, slots := 6, locals := 139 }) (xP D (tysL cI cZ cJ) [.ref (A 0), .int x1, .ref (A 53)] (wLW cI cZ cJ A cs cw ct cu cl cb cp co) sz) (mQi D res.1 (wLW cI cZ cJ A cs cw ct cu cl cb cp co) (wLW cI cZ cJ A cs cw (res.2.1) cu cl cb cp (res.2.2)) sz) 1 6 (va_A (wLW cI cZ cJ A cs cw ct cu cl cb cp co) sz) := by
  refine mkW (cc := cL_found) (maxL := 4) (by decide +kernel) rfl rfl (Nat.le_of_ble_eq_true rfl) ?_
  intro p e s m args below meth c A0 Q S hK hG hX hZ hA hex hR
  obtain ⟨hx, hb, hml, hown, hts⟩ := id S
  have cc1 := hts (.classLink RL 13 (xn 1)) (by decide +kernel)
  intro H locs hP hD hS ls hl
  have hl : lv_has ls 4 [(0, .ref (A 0)), (1, .int x1), (2, .ref (A 53))] := hl
  unfold fL_found at hf
  refine lv_aload_n hx hb dL_found_0 rfl (lv_at hl 2 rfl) ?_
  refine lv_iconst (v := 0) hx hb dL_found_1 (by decide) ?_
  refine lv_aload_n hx hb dL_found_2 rfl (lv_at hl 0 rfl) ?_
  refine lv_iload_n hx hb dL_found_3 rfl (lv_at hl 1 rfl) ?_
  rcases hx_t hf with ⟨q4, h4, hf⟩ | ⟨kx, h4, hf⟩
  · refine cl_i (va_runV (As := [.int x1]) (rest := [.int 0, .ref (A 53)]) S (mX5_found l D cI cZ (aLW_X5_0_1_2_3_4_5_6 A) cs cw ct cu cl cb cp x1 H.size q4 h4) (cwV 1 hts gL_found_X5_found rfl rfl rfl (by decide +kernel) ⟨Nat.le_of_ble_eq_true rfl, Nat.le_of_ble_eq_true rfl⟩) (mP_V (ci := 5) (cutLW_X5_0_1_2_3_4_5_6 _ _ _ _ _ _ _ _ _ _ _ _ st0 st0 st0 st0 st0 st0 st0) hP hD (hK.sub [0, 1] rfl) hG rfl (gX5_0 _ _ _ _ _ _ _ _ _ _)) rfl rfl hl.1 rfl (lv_room (Nat.le_of_ble_eq_true rfl)) dL_found_4 ⟨Nat.le_of_ble_eq_true rfl, Nat.le_of_ble_eq_true rfl⟩) (cutLW_X5_0_1_2_3_4_5_6 _ _ _ _ _ _ _ _ _ _ _ _ _ _ _ _ _ _ _) hP hD hS hA (fun H locs hP hD hS => ?_)
    refine lv_i2l hx hb dL_found_7 rfl ?_
    refine st_l hx hb hK hP hD hS 53 2 (sLW_53 _ _ _ _ _ _ _ _ _ _ _ _ _ _) (gLW_53 _ _ _ _ _ _ _ _ _ _ _ _) rfl (by decide) dL_found_8 (fun H locs hP hD hS => ?_)
    refine lv_goto (tgt := 15) hx hb dL_found_9 (by decide) ?_
    refine lv_iconst (v := 0) hx hb dL_found_15 (by decide) ?_
    exact hR _ ls H locs _ _ _ _ (congrArg (fun q => q.1) (Option.some.inj hf)) (congrArg (fun q => (wLW cI cZ cJ A cs cw (q.2.1) cu cl cb cp (q.2.2))) (Option.some.inj hf)) (by decide) (by decide) dL_found_16 hP hD hS
  · refine clx_i (k := kx) (vx_runV (As := [.int x1]) (rest := [.int 0, .ref (A 53)]) S (xX5_found l hfl D cI cZ (aLW_X5_0_1_2_3_4_5_6 A) cs cw ct cu cl cb cp x1 H.size kx h4) (cwV 1 hts gL_found_X5_found rfl rfl rfl (by decide +kernel) ⟨Nat.le_of_ble_eq_true rfl, Nat.le_of_ble_eq_true rfl⟩) (xP_V (ci := 5) (cutLW_X5_0_1_2_3_4_5_6 _ _ _ _ _ _ _ _ _ _ _ _ st0 st0 st0 st0 st0 st0 st0) hP hD hS hA (hK.sub [0, 1] rfl) hG hX hZ rfl (gX5_0 _ _ _ _ _ _ _ _ _ _)) rfl rfl hl.1 rfl (lv_room (Nat.le_of_ble_eq_true rfl)) dL_found_4 ⟨Nat.le_of_ble_eq_true rfl, Nat.le_of_ble_eq_true rfl⟩) (cutLW_X5_0_1_2_3_4_5_6 _ _ _ _ _ _ _ _ _ _ _ _ _ _ _ _ _ _ _) rfl hP hD hS hA (fun E ce q9 H locs hE hce hcv hcl hP hD hS => ?_)
    subst hE
    by_cases e1 : kx = 1
    · have hf := if_t e1 hf
      subst e1
      refine vx_catch (own := RL) (name := xn 1) hown [] (⟨0, 9, 12, 13⟩ : ExceptionTableEntry) [] (by rw [hex]; rfl) (fun z hz => absurd hz List.not_mem_nil) (by decide) (by decide) cc1 (va_any rfl (hX.2.1 1 (by decide))) hce hcv hcl ?_
      refine lv_astore_n (lv' := [(3, .ref q9), (0, .ref (A 0)), (1, .int x1), (2, .ref (A 53))]) hx hb dL_found_12 rfl hl (by decide) rfl (fun ls hl => ?_)
      refine lv_iconst (v := 1) hx hb dL_found_13 (by decide) ?_
      exact hR _ ls H locs _ _ _ _ (congrArg (fun q => q.1) (Option.some.inj hf)) (congrArg (fun q => (wLW cI cZ cJ A cs cw (q.2.1) cu cl cb cp (q.2.2))) (Option.some.inj hf)) (by decide) (by decide) dL_found_14 hP hD hS
    have hf := if_f e1 hf
    cases hf
set_option maxHeartbeats 4000000 in
set_option maxRecDepth 100000 in
theorem mL_walk (l : Launch) (hfl : l.stackTraces = false) (D : va_G) (cI cZ cJ : ClassId) (A : Nat → Nat) (cs : St) (cw : St) (ct : St) (cu : St) (cl : St) (cb : St) (cp : St) (co : Nat → Int64) (x1 : Int32) (x2 : Int32) (sz : Nat) (res : Int32 × (Nat → Int64)) (hf : fL_walk cw ct cl cb co x1 x2 = some res) : Met l yL_walk wsL_walk ({ frames := 8, cells := 1, slots := 6, locals := 143 }) (xP D (tysL cI cZ cJ) [.ref (A 0), .int x1, .int x2, .ref (A 53)] (wLW cI cZ cJ A cs cw ct cu cl cb cp co) sz) (mQi D res.1 (wLW cI cZ cJ A cs cw ct cu cl cb cp co) (wLW cI cZ cJ A cs cw ct cu cl cb cp (res.2)) sz) 1 6 (va_A (wLW cI cZ cJ A cs cw ct cu cl cb cp co) sz) := by
  refine mkW (cc := cL_walk) (maxL := 5) (by decide +kernel) rfl rfl (Nat.le_of_ble_eq_true rfl) ?_
  intro p e s m args below meth c A0 Q S hK hG hX hZ hA hex hR
  obtain ⟨hx, hb, hml, hown, hts⟩ := id S
  have cc1 := hts (.classLink RL 13 (xn 1)) (by decide +kernel)
  have cc2 := hts (.classLink RL 15 (xn 2)) (by decide +kernel)
  have cc3 := hts (.classLink RL 17 (xn 3)) (by decide +kernel)
  intro H locs hP hD hS ls hl
  have hl : lv_has ls 5 [(0, .ref (A 0)), (1, .int x1), (2, .int x2), (3, .ref (A 53))] := hl
  unfold fL_walk at hf
  refine lv_aload_n hx hb dL_walk_0 rfl (lv_at hl 3 rfl) ?_
  refine lv_iconst (v := 0) hx hb dL_walk_1 (by decide) ?_
  refine lv_aload_n hx hb dL_walk_2 rfl (lv_at hl 0 rfl) ?_
  refine lv_iload_n hx hb dL_walk_3 rfl (lv_at hl 1 rfl) ?_
  refine lv_iload_n hx hb dL_walk_4 rfl (lv_at hl 2 rfl) ?_
  rcases hx_t hf with ⟨q5, h5, hf⟩ | ⟨kx, h5, hf⟩
  · refine cl_i (va_runV (As := [.int x1, .int x2]) (rest := [.int 0, .ref (A 53)]) S (mX5_walk l D cI cZ (aLW_X5_0_1_2_3_4_5_6 A) cs cw ct cu cl cb cp x1 x2 H.size q5 h5) (cwV 2 hts gL_walk_X5_walk rfl rfl rfl (by decide +kernel) ⟨Nat.le_of_ble_eq_true rfl, Nat.le_of_ble_eq_true rfl⟩) (mP_V (ci := 5) (cutLW_X5_0_1_2_3_4_5_6 _ _ _ _ _ _ _ _ _ _ _ _ st0 st0 st0 st0 st0 st0 st0) hP hD (hK.sub [0, 1] rfl) hG rfl (gX5_0 _ _ _ _ _ _ _ _ _ _)) rfl rfl hl.1 rfl (lv_room (Nat.le_of_ble_eq_true rfl)) dL_walk_5 ⟨Nat.le_of_ble_eq_true rfl, Nat.le_of_ble_eq_true rfl⟩) (cutLW_X5_0_1_2_3_4_5_6 _ _ _ _ _ _ _ _ _ _ _ _ _ _ _ _ _ _ _) hP hD hS hA (fun H locs hP hD hS => ?_)
    refine lv_i2l hx hb dL_walk_8 rfl ?_
    refine st_l hx hb hK hP hD hS 53 2 (sLW_53 _ _ _ _ _ _ _ _ _ _ _ _ _ _) (gLW_53 _ _ _ _ _ _ _ _ _ _ _ _) rfl (by decide) dL_walk_9 (fun H locs hP hD hS => ?_)
    refine lv_goto (tgt := 25) hx hb dL_walk_10 (by decide) ?_
    refine lv_iconst (v := 0) hx hb dL_walk_25 (by decide) ?_
    exact hR _ ls H locs _ _ _ _ (congrArg (fun q => q.1) (Option.some.inj hf)) (congrArg (fun q => (wLW cI cZ cJ A cs cw ct cu cl cb cp (q.2))) (Option.some.inj hf)) (by decide) (by decide) dL_walk_26 hP hD hS
  · refine clx_i (k := kx) (vx_runV (As := [.int x1, .int x2]) (rest := [.int 0, .ref (A 53)]) S (xX5_walk l hfl D cI cZ (aLW_X5_0_1_2_3_4_5_6 A) cs cw ct cu cl cb cp x1 x2 H.size kx h5) (cwV 2 hts gL_walk_X5_walk rfl rfl rfl (by decide +kernel) ⟨Nat.le_of_ble_eq_true rfl, Nat.le_of_ble_eq_true rfl⟩) (xP_V (ci := 5) (cutLW_X5_0_1_2_3_4_5_6 _ _ _ _ _ _ _ _ _ _ _ _ st0 st0 st0 st0 st0 st0 st0) hP hD hS hA (hK.sub [0, 1] rfl) hG hX hZ rfl (gX5_0 _ _ _ _ _ _ _ _ _ _)) rfl rfl hl.1 rfl (lv_room (Nat.le_of_ble_eq_true rfl)) dL_walk_5 ⟨Nat.le_of_ble_eq_true rfl, Nat.le_of_ble_eq_true rfl⟩) (cutLW_X5_0_1_2_3_4_5_6 _ _ _ _ _ _ _ _ _ _ _ _ _ _ _ _ _ _ _) rfl hP hD hS hA (fun E ce q9 H locs hE hce hcv hcl hP hD hS => ?_)
    subst hE
    by_cases e1 : kx = 1
    · have hf := if_t e1 hf
      subst e1
      refine vx_catch (own := RL) (name := xn 1) hown [] (⟨0, 10, 13, 13⟩ : ExceptionTableEntry) [(⟨0, 10, 17, 15⟩ : ExceptionTableEntry), (⟨0, 10, 21, 17⟩ : ExceptionTableEntry)] (by rw [hex]; rfl) (fun z hz => absurd hz List.not_mem_nil) (by decide) (by decide) cc1 (va_any rfl (hX.2.1 1 (by decide))) hce hcv hcl ?_
      refine lv_astore (lv' := [(4, .ref q9), (0, .ref (A 0)), (1, .int x1), (2, .int x2), (3, .ref (A 53))]) hx hb dL_walk_13 hl (by decide) rfl (fun ls hl => ?_)
      refine lv_iconst (v := 1) hx hb dL_walk_15 (by decide) ?_
      exact hR _ ls H locs _ _ _ _ (congrArg (fun q => q.1) (Option.some.inj hf)) (congrArg (fun q => (wLW cI cZ cJ A cs cw ct cu cl cb cp (q.2))) (Option.some.inj hf)) (by decide) (by decide) dL_walk_16 hP hD hS
    have hf := if_f e1 hf
    by_cases e2 : kx = 2
    · have hf := if_t e2 hf
      subst e2
      refine vx_catch (own := RL) (name := xn 2) hown [(⟨0, 10, 13, 13⟩ : ExceptionTableEntry)] (⟨0, 10, 17, 15⟩ : ExceptionTableEntry) [(⟨0, 10, 21, 17⟩ : ExceptionTableEntry)] (by rw [hex]; rfl) (List.forall_mem_cons.mpr ⟨Or.inr ⟨by decide, xn 1, cc1, hX.2.2.1 (2, 1) (by decide)⟩, (fun z hz => absurd hz List.not_mem_nil)⟩) (by decide) (by decide) cc2 (va_any rfl (hX.2.1 2 (by decide))) hce hcv hcl ?_
      refine lv_astore (lv' := [(4, .ref q9), (0, .ref (A 0)), (1, .int x1), (2, .int x2), (3, .ref (A 53))]) hx hb dL_walk_17 hl (by decide) rfl (fun ls hl => ?_)
      refine lv_iconst (v := 2) hx hb dL_walk_19 (by decide) ?_
      exact hR _ ls H locs _ _ _ _ (congrArg (fun q => q.1) (Option.some.inj hf)) (congrArg (fun q => (wLW cI cZ cJ A cs cw ct cu cl cb cp (q.2))) (Option.some.inj hf)) (by decide) (by decide) dL_walk_20 hP hD hS
    have hf := if_f e2 hf
    by_cases e3 : kx = 3
    · have hf := if_t e3 hf
      subst e3
      refine vx_catch (own := RL) (name := xn 3) hown [(⟨0, 10, 13, 13⟩ : ExceptionTableEntry), (⟨0, 10, 17, 15⟩ : ExceptionTableEntry)] (⟨0, 10, 21, 17⟩ : ExceptionTableEntry) [] (by rw [hex]; rfl) (List.forall_mem_cons.mpr ⟨Or.inr ⟨by decide, xn 1, cc1, hX.2.2.1 (3, 1) (by decide)⟩, (List.forall_mem_cons.mpr ⟨Or.inr ⟨by decide, xn 2, cc2, hX.2.2.1 (3, 2) (by decide)⟩, (fun z hz => absurd hz List.not_mem_nil)⟩)⟩) (by decide) (by decide) cc3 (va_any rfl (hX.2.1 3 (by decide))) hce hcv hcl ?_
      refine lv_astore (lv' := [(4, .ref q9), (0, .ref (A 0)), (1, .int x1), (2, .int x2), (3, .ref (A 53))]) hx hb dL_walk_21 hl (by decide) rfl (fun ls hl => ?_)
      refine lv_iconst (v := 3) hx hb dL_walk_23 (by decide) ?_
      exact hR _ ls H locs _ _ _ _ (congrArg (fun q => q.1) (Option.some.inj hf)) (congrArg (fun q => (wLW cI cZ cJ A cs cw ct cu cl cb cp (q.2))) (Option.some.inj hf)) (by decide) (by decide) dL_walk_24 hP hD hS
    have hf := if_f e3 hf
    cases hf

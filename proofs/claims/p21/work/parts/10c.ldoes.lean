set_option maxHeartbeats 16000000 in
set_option maxRecDepth 100000 in
theorem mL_does (l : Launch) (hfl : l.stackTraces = false) (D : va_G) (cI cZ : ClassId) (A : Nat → Nat) (cs : St) (cw : St) (ct : St) (cu : St) (cl : St) (cb : St) (cp : St) (cg : St) (x1 : Int32) (x2 : Int32) (x3 : Int32) (x4 : Int32) (x5 : Int32) (x6 : Int32) (sz : Nat) (res : Int32 × St × St × St × St × St × St) (hf : fL_does cs cw ct cl cb cp x1 x2 x3 x4 x5 x6 = some res) : Met l yL_does wsL_does ({ frames := 10, cells := 1, slots := 6, locals := 185 }) (xP D (tysX cI cZ) [.ref (A 0), .int x1, .int x2, .int x3, .int x4, .int x5, .int x6] (wLW cI cZ A cs cw ct cu cl cb cp cg) sz) (mQi D res.1 (wLW cI cZ A cs cw ct cu cl cb cp cg) (wLW cI cZ A (res.2.1) (res.2.2.1) (res.2.2.2.1) cu (res.2.2.2.2.1) (res.2.2.2.2.2.1) (res.2.2.2.2.2.2) cg) sz) 1 6 (va_A (wLW cI cZ A cs cw ct cu cl cb cp cg) sz) := by
  refine mkW (cc := cL_does) (maxL := 8) (by decide +kernel) rfl rfl (Nat.le_of_ble_eq_true rfl) ?_
  intro p e s m args below meth c A0 Q S hK hG hX hZ hA hex hR
  obtain ⟨hx, hb, hml, hown, hts⟩ := id S
  have cc1 := hts (.classLink RL 72 (xn 1)) (by decide +kernel)
  have cc2 := hts (.classLink RL 74 (xn 2)) (by decide +kernel)
  have cc3 := hts (.classLink RL 76 (xn 3)) (by decide +kernel)
  intro H locs hP hD hS ls hl
  have hl : lv_has ls 8 [(0, .ref (A 0)), (1, .int x1), (2, .int x2), (3, .int x3), (4, .int x4), (5, .int x5), (6, .int x6)] := hl
  unfold fL_does at hf
  refine lv_iload_n hx hb dL_does_0 rfl (lv_at hl 1 rfl) ?_
  refine lv_if_ne (tgt := 19) hx hb dL_does_1 (by decide) (fun c1 => ?_) (fun c1 => ?_)
  · have hf := if_f c1 hf
    refine lv_iload_n hx hb dL_does_19 rfl (lv_at hl 1 rfl) ?_
    refine lv_iconst (v := 1) hx hb dL_does_20 (by decide) ?_
    refine lv_icmp_ne (tgt := 33) hx hb dL_does_21 (by decide) (fun c21 => ?_) (fun c21 => ?_)
    · have hf := if_f c21 hf
      refine lv_iload_n hx hb dL_does_33 rfl (lv_at hl 1 rfl) ?_
      refine lv_iconst (v := 2) hx hb dL_does_34 (by decide) ?_
      refine lv_icmp_ne (tgt := 49) hx hb dL_does_35 (by decide) (fun c35 => ?_) (fun c35 => ?_)
      · have hf := if_f c35 hf
        refine lv_iload_n hx hb dL_does_49 rfl (lv_at hl 1 rfl) ?_
        refine lv_iconst (v := 3) hx hb dL_does_50 (by decide) ?_
        refine lv_icmp_ne (tgt := 63) hx hb dL_does_51 (by decide) (fun c51 => ?_) (fun c51 => ?_)
        · have hf := if_f c51 hf
          refine lv_iload_n hx hb dL_does_63 rfl (lv_at hl 1 rfl) ?_
          refine lv_iconst (v := 4) hx hb dL_does_64 (by decide) ?_
          refine lv_icmp_ne (tgt := 85) hx hb dL_does_65 (by decide) (fun c65 => ?_) (fun c65 => ?_)
          · have hf := if_f c65 hf
            refine lv_iload_n hx hb dL_does_85 rfl (lv_at hl 1 rfl) ?_
            refine lv_iconst (v := 5) hx hb dL_does_86 (by decide) ?_
            refine lv_icmp_ne (tgt := 101) hx hb dL_does_87 (by decide) (fun c87 => ?_) (fun c87 => ?_)
            · have hf := if_f c87 hf
              refine lv_iload_n hx hb dL_does_101 rfl (lv_at hl 1 rfl) ?_
              refine lv_bipush (v := 6) hx hb dL_does_102 (by decide) ?_
              refine lv_icmp_ne (tgt := 118) hx hb dL_does_104 (by decide) (fun c104 => ?_) (fun c104 => ?_)
              · have hf := if_f c104 hf
                refine lv_iload_n hx hb dL_does_118 rfl (lv_at hl 1 rfl) ?_
                refine lv_bipush (v := 7) hx hb dL_does_119 (by decide) ?_
                refine lv_icmp_ne (tgt := 137) hx hb dL_does_121 (by decide) (fun c121 => ?_) (fun c121 => ?_)
                · have hf := if_f c121 hf
                  refine lv_iload_n hx hb dL_does_137 rfl (lv_at hl 1 rfl) ?_
                  refine lv_bipush (v := 8) hx hb dL_does_138 (by decide) ?_
                  refine lv_icmp_ne (tgt := 151) hx hb dL_does_140 (by decide) (fun c140 => ?_) (fun c140 => ?_)
                  · have hf := if_f c140 hf
                    refine lv_iload_n hx hb dL_does_151 rfl (lv_at hl 1 rfl) ?_
                    refine lv_bipush (v := 9) hx hb dL_does_152 (by decide) ?_
                    refine lv_icmp_ne (tgt := 165) hx hb dL_does_154 (by decide) (fun c154 => ?_) (fun c154 => ?_)
                    · have hf := if_f c154 hf
                      refine lv_iload_n hx hb dL_does_165 rfl (lv_at hl 1 rfl) ?_
                      refine lv_bipush (v := 10) hx hb dL_does_166 (by decide) ?_
                      refine lv_icmp_ne (tgt := 184) hx hb dL_does_168 (by decide) (fun c168 => ?_) (fun c168 => ?_)
                      · have hf := if_f c168 hf
                        refine lv_iload_n hx hb dL_does_184 rfl (lv_at hl 1 rfl) ?_
                        refine lv_bipush (v := 11) hx hb dL_does_185 (by decide) ?_
                        refine lv_icmp_ne (tgt := 199) hx hb dL_does_187 (by decide) (fun c187 => ?_) (fun c187 => ?_)
                        · have hf := if_f c187 hf
                          refine lv_iload_n hx hb dL_does_199 rfl (lv_at hl 1 rfl) ?_
                          refine lv_bipush (v := 12) hx hb dL_does_200 (by decide) ?_
                          refine lv_icmp_ne (tgt := 216) hx hb dL_does_202 (by decide) (fun c202 => ?_) (fun c202 => ?_)
                          · have hf := if_f c202 hf
                            refine lv_iload_n hx hb dL_does_216 rfl (lv_at hl 1 rfl) ?_
                            refine lv_bipush (v := 13) hx hb dL_does_217 (by decide) ?_
                            refine lv_icmp_ne (tgt := 233) hx hb dL_does_219 (by decide) (fun c219 => ?_) (fun c219 => ?_)
                            · have hf := if_f c219 hf
                              refine lv_iload_n hx hb dL_does_233 rfl (lv_at hl 1 rfl) ?_
                              refine lv_bipush (v := 14) hx hb dL_does_234 (by decide) ?_
                              refine lv_icmp_ne (tgt := 248) hx hb dL_does_236 (by decide) (fun c236 => ?_) (fun c236 => ?_)
                              · have hf := if_f c236 hf
                                refine lv_iload_n hx hb dL_does_248 rfl (lv_at hl 1 rfl) ?_
                                refine lv_bipush (v := 15) hx hb dL_does_249 (by decide) ?_
                                refine lv_icmp_ne (tgt := 262) hx hb dL_does_251 (by decide) (fun c251 => ?_) (fun c251 => ?_)
                                · have hf := if_f c251 hf
                                  refine lv_aload_n hx hb dL_does_262 rfl (lv_at hl 0 rfl) ?_
                                  refine lv_iload_n hx hb dL_does_263 rfl (lv_at hl 2 rfl) ?_
                                  refine lv_iload_n hx hb dL_does_264 rfl (lv_at hl 3 rfl) ?_
                                  rcases hx_t hf with ⟨q265, h265, hf⟩ | ⟨kx, h265, hf⟩
                                  · refine cl_i (va_runV (As := [.int x2, .int x3]) (rest := []) S (mX5_walk l D cI cZ (aLW_X5_0_1_2_3_4_5_6 A) cs cw ct cu cl cb cp x2 x3 H.size q265 h265) (cwV 2 hts gL_does_X5_walk rfl rfl rfl (by decide +kernel) ⟨Nat.le_of_ble_eq_true rfl, Nat.le_of_ble_eq_true rfl⟩) (mP_V (ci := 5) (cutLW_X5_0_1_2_3_4_5_6 _ _ _ _ _ _ _ _ _ _ _ st0 st0 st0 st0 st0 st0 st0) hP hD hK hG rfl (gX5_0 _ _ _ _ _ _ _ _ _ _)) rfl rfl hl.1 rfl (lv_room (Nat.le_of_ble_eq_true rfl)) dL_does_265 ⟨by show _ ≤ 1; omega, by show _ ≤ 6; omega⟩) (cutLW_X5_0_1_2_3_4_5_6 _ _ _ _ _ _ _ _ _ _ _ _ _ _ _ _ _ _) hP hD hS hA (fun H locs hP hD hS => ?_)
                                    exact hR _ ls H locs _ _ _ _ (congrArg (fun q => q.1) (Option.some.inj hf)) (congrArg (fun q => (wLW cI cZ A (q.2.1) (q.2.2.1) (q.2.2.2.1) cu (q.2.2.2.2.1) (q.2.2.2.2.2.1) (q.2.2.2.2.2.2) cg)) (Option.some.inj hf)) rfl (by omega) (by omega) dL_does_268 hP hD hS
                                  · refine clx_i (k := kx) (vx_runV (As := [.int x2, .int x3]) (rest := []) S (xX5_walk l hfl D cI cZ (aLW_X5_0_1_2_3_4_5_6 A) cs cw ct cu cl cb cp x2 x3 H.size kx h265) (cwV 2 hts gL_does_X5_walk rfl rfl rfl (by decide +kernel) ⟨Nat.le_of_ble_eq_true rfl, Nat.le_of_ble_eq_true rfl⟩) (xP_V (ci := 5) (cutLW_X5_0_1_2_3_4_5_6 _ _ _ _ _ _ _ _ _ _ _ st0 st0 st0 st0 st0 st0 st0) hP hD hS hA hK hG hX hZ rfl (gX5_0 _ _ _ _ _ _ _ _ _ _)) rfl rfl hl.1 rfl (lv_room (Nat.le_of_ble_eq_true rfl)) dL_does_265 ⟨Nat.le_of_ble_eq_true rfl, Nat.le_of_ble_eq_true rfl⟩) (cutLW_X5_0_1_2_3_4_5_6 _ _ _ _ _ _ _ _ _ _ _ _ _ _ _ _ _ _) rfl hP hD hS hA (fun E ce q9 H locs hE hce hcv hcl hP hD hS => ?_)
                                    subst hE
                                    by_cases e1 : kx = 1
                                    · have hf := if_t e1 hf
                                      subst e1
                                      refine vx_catch (own := RL) (name := xn 1) hown [] (⟨0, 268, 269, 72⟩ : ExceptionTableEntry) [(⟨0, 268, 275, 74⟩ : ExceptionTableEntry), (⟨0, 268, 281, 76⟩ : ExceptionTableEntry)] (by rw [hex]; rfl) (fun z hz => absurd hz List.not_mem_nil) (by decide) (by decide) cc1 (va_any rfl (hX.2.1 1 (by decide))) hce hcv hcl ?_
                                      refine lv_astore (lv' := [(7, .ref q9), (0, .ref (A 0)), (1, .int x1), (2, .int x2), (3, .int x3), (4, .int x4), (5, .int x5), (6, .int x6)]) hx hb dL_does_269 hl (by decide) rfl (fun ls hl => ?_)
                                      refine lv_sipush (v := (-3000)) hx hb dL_does_271 (by decide) ?_
                                      exact hR _ ls H locs _ _ _ _ (congrArg (fun q => q.1) (Option.some.inj hf)) (congrArg (fun q => (wLW cI cZ A (q.2.1) (q.2.2.1) (q.2.2.2.1) cu (q.2.2.2.2.1) (q.2.2.2.2.2.1) (q.2.2.2.2.2.2) cg)) (Option.some.inj hf)) rfl (by omega) (by omega) dL_does_274 hP hD hS
                                    have hf := if_f e1 hf
                                    by_cases e2 : kx = 2
                                    · have hf := if_t e2 hf
                                      subst e2
                                      refine vx_catch (own := RL) (name := xn 2) hown [(⟨0, 268, 269, 72⟩ : ExceptionTableEntry)] (⟨0, 268, 275, 74⟩ : ExceptionTableEntry) [(⟨0, 268, 281, 76⟩ : ExceptionTableEntry)] (by rw [hex]; rfl) (List.forall_mem_cons.mpr ⟨Or.inr ⟨by decide, xn 1, cc1, hX.2.2.1 (2, 1) (by decide)⟩, (fun z hz => absurd hz List.not_mem_nil)⟩) (by decide) (by decide) cc2 (va_any rfl (hX.2.1 2 (by decide))) hce hcv hcl ?_
                                      refine lv_astore (lv' := [(7, .ref q9), (0, .ref (A 0)), (1, .int x1), (2, .int x2), (3, .int x3), (4, .int x4), (5, .int x5), (6, .int x6)]) hx hb dL_does_275 hl (by decide) rfl (fun ls hl => ?_)
                                      refine lv_sipush (v := (-2000)) hx hb dL_does_277 (by decide) ?_
                                      exact hR _ ls H locs _ _ _ _ (congrArg (fun q => q.1) (Option.some.inj hf)) (congrArg (fun q => (wLW cI cZ A (q.2.1) (q.2.2.1) (q.2.2.2.1) cu (q.2.2.2.2.1) (q.2.2.2.2.2.1) (q.2.2.2.2.2.2) cg)) (Option.some.inj hf)) rfl (by omega) (by omega) dL_does_280 hP hD hS
                                    have hf := if_f e2 hf
                                    by_cases e3 : kx = 3
                                    · have hf := if_t e3 hf
                                      subst e3
                                      refine vx_catch (own := RL) (name := xn 3) hown [(⟨0, 268, 269, 72⟩ : ExceptionTableEntry), (⟨0, 268, 275, 74⟩ : ExceptionTableEntry)] (⟨0, 268, 281, 76⟩ : ExceptionTableEntry) [] (by rw [hex]; rfl) (List.forall_mem_cons.mpr ⟨Or.inr ⟨by decide, xn 1, cc1, hX.2.2.1 (3, 1) (by decide)⟩, (List.forall_mem_cons.mpr ⟨Or.inr ⟨by decide, xn 2, cc2, hX.2.2.1 (3, 2) (by decide)⟩, (fun z hz => absurd hz List.not_mem_nil)⟩)⟩) (by decide) (by decide) cc3 (va_any rfl (hX.2.1 3 (by decide))) hce hcv hcl ?_
                                      refine lv_astore (lv' := [(7, .ref q9), (0, .ref (A 0)), (1, .int x1), (2, .int x2), (3, .int x3), (4, .int x4), (5, .int x5), (6, .int x6)]) hx hb dL_does_281 hl (by decide) rfl (fun ls hl => ?_)
                                      refine lv_sipush (v := (-1000)) hx hb dL_does_283 (by decide) ?_
                                      exact hR _ ls H locs _ _ _ _ (congrArg (fun q => q.1) (Option.some.inj hf)) (congrArg (fun q => (wLW cI cZ A (q.2.1) (q.2.2.1) (q.2.2.2.1) cu (q.2.2.2.2.1) (q.2.2.2.2.2.1) (q.2.2.2.2.2.2) cg)) (Option.some.inj hf)) rfl (by omega) (by omega) dL_does_286 hP hD hS
                                    have hf := if_f e3 hf
                                    cases hf
                                · have hf := if_t c251 hf
                                  refine lv_aload_n hx hb dL_does_254 rfl (lv_at hl 0 rfl) ?_
                                  refine lv_iload_n hx hb dL_does_255 rfl (lv_at hl 2 rfl) ?_
                                  rcases hx_t hf with ⟨q256, h256, hf⟩ | ⟨kx, h256, hf⟩
                                  · refine cl_i (va_runV (As := [.int x2]) (rest := []) S (mX5_found l D cI cZ (aLW_X5_0_1_2_3_4_5_6 A) cs cw ct cu cl cb cp x2 H.size q256 h256) (cwV 1 hts gL_does_X5_found rfl rfl rfl (by decide +kernel) ⟨Nat.le_of_ble_eq_true rfl, Nat.le_of_ble_eq_true rfl⟩) (mP_V (ci := 5) (cutLW_X5_0_1_2_3_4_5_6 _ _ _ _ _ _ _ _ _ _ _ st0 st0 st0 st0 st0 st0 st0) hP hD hK hG rfl (gX5_0 _ _ _ _ _ _ _ _ _ _)) rfl rfl hl.1 rfl (lv_room (Nat.le_of_ble_eq_true rfl)) dL_does_256 ⟨by show _ ≤ 1; omega, by show _ ≤ 6; omega⟩) (cutLW_X5_0_1_2_3_4_5_6 _ _ _ _ _ _ _ _ _ _ _ _ _ _ _ _ _ _) hP hD hS hA (fun H locs hP hD hS => ?_)
                                    refine lv_goto (tgt := 268) hx hb dL_does_259 (by decide) ?_
                                    exact hR _ ls H locs _ _ _ _ (congrArg (fun q => q.1) (Option.some.inj hf)) (congrArg (fun q => (wLW cI cZ A (q.2.1) (q.2.2.1) (q.2.2.2.1) cu (q.2.2.2.2.1) (q.2.2.2.2.2.1) (q.2.2.2.2.2.2) cg)) (Option.some.inj hf)) rfl (by omega) (by omega) dL_does_268 hP hD hS
                                  · refine clx_i (k := kx) (vx_runV (As := [.int x2]) (rest := []) S (xX5_found l hfl D cI cZ (aLW_X5_0_1_2_3_4_5_6 A) cs cw ct cu cl cb cp x2 H.size kx h256) (cwV 1 hts gL_does_X5_found rfl rfl rfl (by decide +kernel) ⟨Nat.le_of_ble_eq_true rfl, Nat.le_of_ble_eq_true rfl⟩) (xP_V (ci := 5) (cutLW_X5_0_1_2_3_4_5_6 _ _ _ _ _ _ _ _ _ _ _ st0 st0 st0 st0 st0 st0 st0) hP hD hS hA hK hG hX hZ rfl (gX5_0 _ _ _ _ _ _ _ _ _ _)) rfl rfl hl.1 rfl (lv_room (Nat.le_of_ble_eq_true rfl)) dL_does_256 ⟨Nat.le_of_ble_eq_true rfl, Nat.le_of_ble_eq_true rfl⟩) (cutLW_X5_0_1_2_3_4_5_6 _ _ _ _ _ _ _ _ _ _ _ _ _ _ _ _ _ _) rfl hP hD hS hA (fun E ce q9 H locs hE hce hcv hcl hP hD hS => ?_)
                                    subst hE
                                    by_cases e1 : kx = 1
                                    · have hf := if_t e1 hf
                                      subst e1
                                      refine vx_catch (own := RL) (name := xn 1) hown [] (⟨0, 268, 269, 72⟩ : ExceptionTableEntry) [(⟨0, 268, 275, 74⟩ : ExceptionTableEntry), (⟨0, 268, 281, 76⟩ : ExceptionTableEntry)] (by rw [hex]; rfl) (fun z hz => absurd hz List.not_mem_nil) (by decide) (by decide) cc1 (va_any rfl (hX.2.1 1 (by decide))) hce hcv hcl ?_
                                      refine lv_astore (lv' := [(7, .ref q9), (0, .ref (A 0)), (1, .int x1), (2, .int x2), (3, .int x3), (4, .int x4), (5, .int x5), (6, .int x6)]) hx hb dL_does_269 hl (by decide) rfl (fun ls hl => ?_)
                                      refine lv_sipush (v := (-3000)) hx hb dL_does_271 (by decide) ?_
                                      exact hR _ ls H locs _ _ _ _ (congrArg (fun q => q.1) (Option.some.inj hf)) (congrArg (fun q => (wLW cI cZ A (q.2.1) (q.2.2.1) (q.2.2.2.1) cu (q.2.2.2.2.1) (q.2.2.2.2.2.1) (q.2.2.2.2.2.2) cg)) (Option.some.inj hf)) rfl (by omega) (by omega) dL_does_274 hP hD hS
                                    have hf := if_f e1 hf
                                    by_cases e2 : kx = 2
                                    · have hf := if_t e2 hf
                                      subst e2
                                      refine vx_catch (own := RL) (name := xn 2) hown [(⟨0, 268, 269, 72⟩ : ExceptionTableEntry)] (⟨0, 268, 275, 74⟩ : ExceptionTableEntry) [(⟨0, 268, 281, 76⟩ : ExceptionTableEntry)] (by rw [hex]; rfl) (List.forall_mem_cons.mpr ⟨Or.inr ⟨by decide, xn 1, cc1, hX.2.2.1 (2, 1) (by decide)⟩, (fun z hz => absurd hz List.not_mem_nil)⟩) (by decide) (by decide) cc2 (va_any rfl (hX.2.1 2 (by decide))) hce hcv hcl ?_
                                      refine lv_astore (lv' := [(7, .ref q9), (0, .ref (A 0)), (1, .int x1), (2, .int x2), (3, .int x3), (4, .int x4), (5, .int x5), (6, .int x6)]) hx hb dL_does_275 hl (by decide) rfl (fun ls hl => ?_)
                                      refine lv_sipush (v := (-2000)) hx hb dL_does_277 (by decide) ?_
                                      exact hR _ ls H locs _ _ _ _ (congrArg (fun q => q.1) (Option.some.inj hf)) (congrArg (fun q => (wLW cI cZ A (q.2.1) (q.2.2.1) (q.2.2.2.1) cu (q.2.2.2.2.1) (q.2.2.2.2.2.1) (q.2.2.2.2.2.2) cg)) (Option.some.inj hf)) rfl (by omega) (by omega) dL_does_280 hP hD hS
                                    have hf := if_f e2 hf
                                    by_cases e3 : kx = 3
                                    · have hf := if_t e3 hf
                                      subst e3
                                      refine vx_catch (own := RL) (name := xn 3) hown [(⟨0, 268, 269, 72⟩ : ExceptionTableEntry), (⟨0, 268, 275, 74⟩ : ExceptionTableEntry)] (⟨0, 268, 281, 76⟩ : ExceptionTableEntry) [] (by rw [hex]; rfl) (List.forall_mem_cons.mpr ⟨Or.inr ⟨by decide, xn 1, cc1, hX.2.2.1 (3, 1) (by decide)⟩, (List.forall_mem_cons.mpr ⟨Or.inr ⟨by decide, xn 2, cc2, hX.2.2.1 (3, 2) (by decide)⟩, (fun z hz => absurd hz List.not_mem_nil)⟩)⟩) (by decide) (by decide) cc3 (va_any rfl (hX.2.1 3 (by decide))) hce hcv hcl ?_
                                      refine lv_astore (lv' := [(7, .ref q9), (0, .ref (A 0)), (1, .int x1), (2, .int x2), (3, .int x3), (4, .int x4), (5, .int x5), (6, .int x6)]) hx hb dL_does_281 hl (by decide) rfl (fun ls hl => ?_)
                                      refine lv_sipush (v := (-1000)) hx hb dL_does_283 (by decide) ?_
                                      exact hR _ ls H locs _ _ _ _ (congrArg (fun q => q.1) (Option.some.inj hf)) (congrArg (fun q => (wLW cI cZ A (q.2.1) (q.2.2.1) (q.2.2.2.1) cu (q.2.2.2.2.1) (q.2.2.2.2.2.1) (q.2.2.2.2.2.2) cg)) (Option.some.inj hf)) rfl (by omega) (by omega) dL_does_286 hP hD hS
                                    have hf := if_f e3 hf
                                    cases hf
                              · have hf := if_t c236 hf
                                refine lv_aload_n hx hb dL_does_239 rfl (lv_at hl 0 rfl) ?_
                                refine lv_iload_n hx hb dL_does_240 rfl (lv_at hl 2 rfl) ?_
                                refine lv_iconst (v := 0) hx hb dL_does_241 (by decide) ?_
                                rcases hx_t hf with ⟨q242, h242, hf⟩ | ⟨kx, h242, hf⟩
                                · refine cl_i (va_runV (As := [.int x2, .int 0]) (rest := []) S (mX5_got l D cI cZ (aLW_X5_0_1_2_3_4_5_6 A) cs cw ct cu cl cb cp x2 0 H.size q242 h242) (cwV 2 hts gL_does_X5_got rfl rfl rfl (by decide +kernel) ⟨Nat.le_of_ble_eq_true rfl, Nat.le_of_ble_eq_true rfl⟩) (mP_V (ci := 5) (cutLW_X5_0_1_2_3_4_5_6 _ _ _ _ _ _ _ _ _ _ _ st0 st0 st0 st0 st0 st0 st0) hP hD hK hG rfl (gX5_0 _ _ _ _ _ _ _ _ _ _)) rfl rfl hl.1 rfl (lv_room (Nat.le_of_ble_eq_true rfl)) dL_does_242 ⟨by show _ ≤ 1; omega, by show _ ≤ 6; omega⟩) (cutLW_X5_0_1_2_3_4_5_6 _ _ _ _ _ _ _ _ _ _ _ _ _ _ _ _ _ _) hP hD hS hA (fun H locs hP hD hS => ?_)
                                  refine lv_goto (tgt := 268) hx hb dL_does_245 (by decide) ?_
                                  exact hR _ ls H locs _ _ _ _ (congrArg (fun q => q.1) (Option.some.inj hf)) (congrArg (fun q => (wLW cI cZ A (q.2.1) (q.2.2.1) (q.2.2.2.1) cu (q.2.2.2.2.1) (q.2.2.2.2.2.1) (q.2.2.2.2.2.2) cg)) (Option.some.inj hf)) rfl (by omega) (by omega) dL_does_268 hP hD hS
                                · refine clx_i (k := kx) (vx_runV (As := [.int x2, .int 0]) (rest := []) S (xX5_got l hfl D cI cZ (aLW_X5_0_1_2_3_4_5_6 A) cs cw ct cu cl cb cp x2 0 H.size kx h242) (cwV 2 hts gL_does_X5_got rfl rfl rfl (by decide +kernel) ⟨Nat.le_of_ble_eq_true rfl, Nat.le_of_ble_eq_true rfl⟩) (xP_V (ci := 5) (cutLW_X5_0_1_2_3_4_5_6 _ _ _ _ _ _ _ _ _ _ _ st0 st0 st0 st0 st0 st0 st0) hP hD hS hA hK hG hX hZ rfl (gX5_0 _ _ _ _ _ _ _ _ _ _)) rfl rfl hl.1 rfl (lv_room (Nat.le_of_ble_eq_true rfl)) dL_does_242 ⟨Nat.le_of_ble_eq_true rfl, Nat.le_of_ble_eq_true rfl⟩) (cutLW_X5_0_1_2_3_4_5_6 _ _ _ _ _ _ _ _ _ _ _ _ _ _ _ _ _ _) rfl hP hD hS hA (fun E ce q9 H locs hE hce hcv hcl hP hD hS => ?_)
                                  subst hE
                                  by_cases e1 : kx = 1
                                  · have hf := if_t e1 hf
                                    subst e1
                                    refine vx_catch (own := RL) (name := xn 1) hown [] (⟨0, 268, 269, 72⟩ : ExceptionTableEntry) [(⟨0, 268, 275, 74⟩ : ExceptionTableEntry), (⟨0, 268, 281, 76⟩ : ExceptionTableEntry)] (by rw [hex]; rfl) (fun z hz => absurd hz List.not_mem_nil) (by decide) (by decide) cc1 (va_any rfl (hX.2.1 1 (by decide))) hce hcv hcl ?_
                                    refine lv_astore (lv' := [(7, .ref q9), (0, .ref (A 0)), (1, .int x1), (2, .int x2), (3, .int x3), (4, .int x4), (5, .int x5), (6, .int x6)]) hx hb dL_does_269 hl (by decide) rfl (fun ls hl => ?_)
                                    refine lv_sipush (v := (-3000)) hx hb dL_does_271 (by decide) ?_
                                    exact hR _ ls H locs _ _ _ _ (congrArg (fun q => q.1) (Option.some.inj hf)) (congrArg (fun q => (wLW cI cZ A (q.2.1) (q.2.2.1) (q.2.2.2.1) cu (q.2.2.2.2.1) (q.2.2.2.2.2.1) (q.2.2.2.2.2.2) cg)) (Option.some.inj hf)) rfl (by omega) (by omega) dL_does_274 hP hD hS
                                  have hf := if_f e1 hf
                                  by_cases e2 : kx = 2
                                  · have hf := if_t e2 hf
                                    subst e2
                                    refine vx_catch (own := RL) (name := xn 2) hown [(⟨0, 268, 269, 72⟩ : ExceptionTableEntry)] (⟨0, 268, 275, 74⟩ : ExceptionTableEntry) [(⟨0, 268, 281, 76⟩ : ExceptionTableEntry)] (by rw [hex]; rfl) (List.forall_mem_cons.mpr ⟨Or.inr ⟨by decide, xn 1, cc1, hX.2.2.1 (2, 1) (by decide)⟩, (fun z hz => absurd hz List.not_mem_nil)⟩) (by decide) (by decide) cc2 (va_any rfl (hX.2.1 2 (by decide))) hce hcv hcl ?_
                                    refine lv_astore (lv' := [(7, .ref q9), (0, .ref (A 0)), (1, .int x1), (2, .int x2), (3, .int x3), (4, .int x4), (5, .int x5), (6, .int x6)]) hx hb dL_does_275 hl (by decide) rfl (fun ls hl => ?_)
                                    refine lv_sipush (v := (-2000)) hx hb dL_does_277 (by decide) ?_
                                    exact hR _ ls H locs _ _ _ _ (congrArg (fun q => q.1) (Option.some.inj hf)) (congrArg (fun q => (wLW cI cZ A (q.2.1) (q.2.2.1) (q.2.2.2.1) cu (q.2.2.2.2.1) (q.2.2.2.2.2.1) (q.2.2.2.2.2.2) cg)) (Option.some.inj hf)) rfl (by omega) (by omega) dL_does_280 hP hD hS
                                  have hf := if_f e2 hf
                                  by_cases e3 : kx = 3
                                  · have hf := if_t e3 hf
                                    subst e3
                                    refine vx_catch (own := RL) (name := xn 3) hown [(⟨0, 268, 269, 72⟩ : ExceptionTableEntry), (⟨0, 268, 275, 74⟩ : ExceptionTableEntry)] (⟨0, 268, 281, 76⟩ : ExceptionTableEntry) [] (by rw [hex]; rfl) (List.forall_mem_cons.mpr ⟨Or.inr ⟨by decide, xn 1, cc1, hX.2.2.1 (3, 1) (by decide)⟩, (List.forall_mem_cons.mpr ⟨Or.inr ⟨by decide, xn 2, cc2, hX.2.2.1 (3, 2) (by decide)⟩, (fun z hz => absurd hz List.not_mem_nil)⟩)⟩) (by decide) (by decide) cc3 (va_any rfl (hX.2.1 3 (by decide))) hce hcv hcl ?_
                                    refine lv_astore (lv' := [(7, .ref q9), (0, .ref (A 0)), (1, .int x1), (2, .int x2), (3, .int x3), (4, .int x4), (5, .int x5), (6, .int x6)]) hx hb dL_does_281 hl (by decide) rfl (fun ls hl => ?_)
                                    refine lv_sipush (v := (-1000)) hx hb dL_does_283 (by decide) ?_
                                    exact hR _ ls H locs _ _ _ _ (congrArg (fun q => q.1) (Option.some.inj hf)) (congrArg (fun q => (wLW cI cZ A (q.2.1) (q.2.2.1) (q.2.2.2.1) cu (q.2.2.2.2.1) (q.2.2.2.2.2.1) (q.2.2.2.2.2.2) cg)) (Option.some.inj hf)) rfl (by omega) (by omega) dL_does_286 hP hD hS
                                  have hf := if_f e3 hf
                                  cases hf
                            · have hf := if_t c219 hf
                              refine lv_aload_n hx hb dL_does_222 rfl (lv_at hl 0 rfl) ?_
                              refine lv_iload_n hx hb dL_does_223 rfl (lv_at hl 2 rfl) ?_
                              refine lv_iload_n hx hb dL_does_224 rfl (lv_at hl 3 rfl) ?_
                              refine lv_iload hx hb dL_does_225 (lv_at hl 4 rfl) ?_
                              rcases hx_t hf with ⟨q227, h227, hf⟩ | ⟨kx, h227, hf⟩
                              · refine cl_i (va_runV (As := [.int x2, .int x3, .int x4]) (rest := []) S (mX5_table l D cI cZ (aLW_X5_0_1_2_3_4_5_6 A) cs cw ct cu cl cb cp x2 x3 x4 H.size q227 h227) (cwV 3 hts gL_does_X5_table rfl rfl rfl (by decide +kernel) ⟨Nat.le_of_ble_eq_true rfl, Nat.le_of_ble_eq_true rfl⟩) (mP_V (ci := 5) (cutLW_X5_0_1_2_3_4_5_6 _ _ _ _ _ _ _ _ _ _ _ st0 st0 st0 st0 st0 st0 st0) hP hD hK hG rfl (gX5_0 _ _ _ _ _ _ _ _ _ _)) rfl rfl hl.1 rfl (lv_room (Nat.le_of_ble_eq_true rfl)) dL_does_227 ⟨by show _ ≤ 1; omega, by show _ ≤ 6; omega⟩) (cutLW_X5_0_1_2_3_4_5_6 _ _ _ _ _ _ _ _ _ _ _ _ _ _ _ _ _ _) hP hD hS hA (fun H locs hP hD hS => ?_)
                                refine lv_goto (tgt := 268) hx hb dL_does_230 (by decide) ?_
                                exact hR _ ls H locs _ _ _ _ (congrArg (fun q => q.1) (Option.some.inj hf)) (congrArg (fun q => (wLW cI cZ A (q.2.1) (q.2.2.1) (q.2.2.2.1) cu (q.2.2.2.2.1) (q.2.2.2.2.2.1) (q.2.2.2.2.2.2) cg)) (Option.some.inj hf)) rfl (by omega) (by omega) dL_does_268 hP hD hS
                              · refine clx_i (k := kx) (vx_runV (As := [.int x2, .int x3, .int x4]) (rest := []) S (xX5_table l hfl D cI cZ (aLW_X5_0_1_2_3_4_5_6 A) cs cw ct cu cl cb cp x2 x3 x4 H.size kx h227) (cwV 3 hts gL_does_X5_table rfl rfl rfl (by decide +kernel) ⟨Nat.le_of_ble_eq_true rfl, Nat.le_of_ble_eq_true rfl⟩) (xP_V (ci := 5) (cutLW_X5_0_1_2_3_4_5_6 _ _ _ _ _ _ _ _ _ _ _ st0 st0 st0 st0 st0 st0 st0) hP hD hS hA hK hG hX hZ rfl (gX5_0 _ _ _ _ _ _ _ _ _ _)) rfl rfl hl.1 rfl (lv_room (Nat.le_of_ble_eq_true rfl)) dL_does_227 ⟨Nat.le_of_ble_eq_true rfl, Nat.le_of_ble_eq_true rfl⟩) (cutLW_X5_0_1_2_3_4_5_6 _ _ _ _ _ _ _ _ _ _ _ _ _ _ _ _ _ _) rfl hP hD hS hA (fun E ce q9 H locs hE hce hcv hcl hP hD hS => ?_)
                                subst hE
                                by_cases e1 : kx = 1
                                · have hf := if_t e1 hf
                                  subst e1
                                  refine vx_catch (own := RL) (name := xn 1) hown [] (⟨0, 268, 269, 72⟩ : ExceptionTableEntry) [(⟨0, 268, 275, 74⟩ : ExceptionTableEntry), (⟨0, 268, 281, 76⟩ : ExceptionTableEntry)] (by rw [hex]; rfl) (fun z hz => absurd hz List.not_mem_nil) (by decide) (by decide) cc1 (va_any rfl (hX.2.1 1 (by decide))) hce hcv hcl ?_
                                  refine lv_astore (lv' := [(7, .ref q9), (0, .ref (A 0)), (1, .int x1), (2, .int x2), (3, .int x3), (4, .int x4), (5, .int x5), (6, .int x6)]) hx hb dL_does_269 hl (by decide) rfl (fun ls hl => ?_)
                                  refine lv_sipush (v := (-3000)) hx hb dL_does_271 (by decide) ?_
                                  exact hR _ ls H locs _ _ _ _ (congrArg (fun q => q.1) (Option.some.inj hf)) (congrArg (fun q => (wLW cI cZ A (q.2.1) (q.2.2.1) (q.2.2.2.1) cu (q.2.2.2.2.1) (q.2.2.2.2.2.1) (q.2.2.2.2.2.2) cg)) (Option.some.inj hf)) rfl (by omega) (by omega) dL_does_274 hP hD hS
                                have hf := if_f e1 hf
                                by_cases e2 : kx = 2
                                · have hf := if_t e2 hf
                                  subst e2
                                  refine vx_catch (own := RL) (name := xn 2) hown [(⟨0, 268, 269, 72⟩ : ExceptionTableEntry)] (⟨0, 268, 275, 74⟩ : ExceptionTableEntry) [(⟨0, 268, 281, 76⟩ : ExceptionTableEntry)] (by rw [hex]; rfl) (List.forall_mem_cons.mpr ⟨Or.inr ⟨by decide, xn 1, cc1, hX.2.2.1 (2, 1) (by decide)⟩, (fun z hz => absurd hz List.not_mem_nil)⟩) (by decide) (by decide) cc2 (va_any rfl (hX.2.1 2 (by decide))) hce hcv hcl ?_
                                  refine lv_astore (lv' := [(7, .ref q9), (0, .ref (A 0)), (1, .int x1), (2, .int x2), (3, .int x3), (4, .int x4), (5, .int x5), (6, .int x6)]) hx hb dL_does_275 hl (by decide) rfl (fun ls hl => ?_)
                                  refine lv_sipush (v := (-2000)) hx hb dL_does_277 (by decide) ?_
                                  exact hR _ ls H locs _ _ _ _ (congrArg (fun q => q.1) (Option.some.inj hf)) (congrArg (fun q => (wLW cI cZ A (q.2.1) (q.2.2.1) (q.2.2.2.1) cu (q.2.2.2.2.1) (q.2.2.2.2.2.1) (q.2.2.2.2.2.2) cg)) (Option.some.inj hf)) rfl (by omega) (by omega) dL_does_280 hP hD hS
                                have hf := if_f e2 hf
                                by_cases e3 : kx = 3
                                · have hf := if_t e3 hf
                                  subst e3
                                  refine vx_catch (own := RL) (name := xn 3) hown [(⟨0, 268, 269, 72⟩ : ExceptionTableEntry), (⟨0, 268, 275, 74⟩ : ExceptionTableEntry)] (⟨0, 268, 281, 76⟩ : ExceptionTableEntry) [] (by rw [hex]; rfl) (List.forall_mem_cons.mpr ⟨Or.inr ⟨by decide, xn 1, cc1, hX.2.2.1 (3, 1) (by decide)⟩, (List.forall_mem_cons.mpr ⟨Or.inr ⟨by decide, xn 2, cc2, hX.2.2.1 (3, 2) (by decide)⟩, (fun z hz => absurd hz List.not_mem_nil)⟩)⟩) (by decide) (by decide) cc3 (va_any rfl (hX.2.1 3 (by decide))) hce hcv hcl ?_
                                  refine lv_astore (lv' := [(7, .ref q9), (0, .ref (A 0)), (1, .int x1), (2, .int x2), (3, .int x3), (4, .int x4), (5, .int x5), (6, .int x6)]) hx hb dL_does_281 hl (by decide) rfl (fun ls hl => ?_)
                                  refine lv_sipush (v := (-1000)) hx hb dL_does_283 (by decide) ?_
                                  exact hR _ ls H locs _ _ _ _ (congrArg (fun q => q.1) (Option.some.inj hf)) (congrArg (fun q => (wLW cI cZ A (q.2.1) (q.2.2.1) (q.2.2.2.1) cu (q.2.2.2.2.1) (q.2.2.2.2.2.1) (q.2.2.2.2.2.2) cg)) (Option.some.inj hf)) rfl (by omega) (by omega) dL_does_286 hP hD hS
                                have hf := if_f e3 hf
                                cases hf
                          · have hf := if_t c202 hf
                            refine lv_aload_n hx hb dL_does_205 rfl (lv_at hl 0 rfl) ?_
                            refine lv_iload_n hx hb dL_does_206 rfl (lv_at hl 2 rfl) ?_
                            refine lv_iload_n hx hb dL_does_207 rfl (lv_at hl 3 rfl) ?_
                            refine lv_iload hx hb dL_does_208 (lv_at hl 4 rfl) ?_
                            rcases hx_t hf with ⟨q210, h210, hf⟩ | ⟨kx, h210, hf⟩
                            · refine cl_i (va_runV (As := [.int x2, .int x3, .int x4]) (rest := []) S (mX5_port l D cI cZ (aLW_X5_0_1_2_3_4_5_6 A) cs cw ct cu cl cb cp x2 x3 x4 H.size q210 h210) (cwV 3 hts gL_does_X5_port rfl rfl rfl (by decide +kernel) ⟨Nat.le_of_ble_eq_true rfl, Nat.le_of_ble_eq_true rfl⟩) (mP_V (ci := 5) (cutLW_X5_0_1_2_3_4_5_6 _ _ _ _ _ _ _ _ _ _ _ st0 st0 st0 st0 st0 st0 st0) hP hD hK hG rfl (gX5_0 _ _ _ _ _ _ _ _ _ _)) rfl rfl hl.1 rfl (lv_room (Nat.le_of_ble_eq_true rfl)) dL_does_210 ⟨by show _ ≤ 1; omega, by show _ ≤ 6; omega⟩) (cutLW_X5_0_1_2_3_4_5_6 _ _ _ _ _ _ _ _ _ _ _ _ _ _ _ _ _ _) hP hD hS hA (fun H locs hP hD hS => ?_)
                              refine lv_goto (tgt := 268) hx hb dL_does_213 (by decide) ?_
                              exact hR _ ls H locs _ _ _ _ (congrArg (fun q => q.1) (Option.some.inj hf)) (congrArg (fun q => (wLW cI cZ A (q.2.1) (q.2.2.1) (q.2.2.2.1) cu (q.2.2.2.2.1) (q.2.2.2.2.2.1) (q.2.2.2.2.2.2) cg)) (Option.some.inj hf)) rfl (by omega) (by omega) dL_does_268 hP hD hS
                            · refine clx_i (k := kx) (vx_runV (As := [.int x2, .int x3, .int x4]) (rest := []) S (xX5_port l hfl D cI cZ (aLW_X5_0_1_2_3_4_5_6 A) cs cw ct cu cl cb cp x2 x3 x4 H.size kx h210) (cwV 3 hts gL_does_X5_port rfl rfl rfl (by decide +kernel) ⟨Nat.le_of_ble_eq_true rfl, Nat.le_of_ble_eq_true rfl⟩) (xP_V (ci := 5) (cutLW_X5_0_1_2_3_4_5_6 _ _ _ _ _ _ _ _ _ _ _ st0 st0 st0 st0 st0 st0 st0) hP hD hS hA hK hG hX hZ rfl (gX5_0 _ _ _ _ _ _ _ _ _ _)) rfl rfl hl.1 rfl (lv_room (Nat.le_of_ble_eq_true rfl)) dL_does_210 ⟨Nat.le_of_ble_eq_true rfl, Nat.le_of_ble_eq_true rfl⟩) (cutLW_X5_0_1_2_3_4_5_6 _ _ _ _ _ _ _ _ _ _ _ _ _ _ _ _ _ _) rfl hP hD hS hA (fun E ce q9 H locs hE hce hcv hcl hP hD hS => ?_)
                              subst hE
                              by_cases e1 : kx = 1
                              · have hf := if_t e1 hf
                                subst e1
                                refine vx_catch (own := RL) (name := xn 1) hown [] (⟨0, 268, 269, 72⟩ : ExceptionTableEntry) [(⟨0, 268, 275, 74⟩ : ExceptionTableEntry), (⟨0, 268, 281, 76⟩ : ExceptionTableEntry)] (by rw [hex]; rfl) (fun z hz => absurd hz List.not_mem_nil) (by decide) (by decide) cc1 (va_any rfl (hX.2.1 1 (by decide))) hce hcv hcl ?_
                                refine lv_astore (lv' := [(7, .ref q9), (0, .ref (A 0)), (1, .int x1), (2, .int x2), (3, .int x3), (4, .int x4), (5, .int x5), (6, .int x6)]) hx hb dL_does_269 hl (by decide) rfl (fun ls hl => ?_)
                                refine lv_sipush (v := (-3000)) hx hb dL_does_271 (by decide) ?_
                                exact hR _ ls H locs _ _ _ _ (congrArg (fun q => q.1) (Option.some.inj hf)) (congrArg (fun q => (wLW cI cZ A (q.2.1) (q.2.2.1) (q.2.2.2.1) cu (q.2.2.2.2.1) (q.2.2.2.2.2.1) (q.2.2.2.2.2.2) cg)) (Option.some.inj hf)) rfl (by omega) (by omega) dL_does_274 hP hD hS
                              have hf := if_f e1 hf
                              by_cases e2 : kx = 2
                              · have hf := if_t e2 hf
                                subst e2
                                refine vx_catch (own := RL) (name := xn 2) hown [(⟨0, 268, 269, 72⟩ : ExceptionTableEntry)] (⟨0, 268, 275, 74⟩ : ExceptionTableEntry) [(⟨0, 268, 281, 76⟩ : ExceptionTableEntry)] (by rw [hex]; rfl) (List.forall_mem_cons.mpr ⟨Or.inr ⟨by decide, xn 1, cc1, hX.2.2.1 (2, 1) (by decide)⟩, (fun z hz => absurd hz List.not_mem_nil)⟩) (by decide) (by decide) cc2 (va_any rfl (hX.2.1 2 (by decide))) hce hcv hcl ?_
                                refine lv_astore (lv' := [(7, .ref q9), (0, .ref (A 0)), (1, .int x1), (2, .int x2), (3, .int x3), (4, .int x4), (5, .int x5), (6, .int x6)]) hx hb dL_does_275 hl (by decide) rfl (fun ls hl => ?_)
                                refine lv_sipush (v := (-2000)) hx hb dL_does_277 (by decide) ?_
                                exact hR _ ls H locs _ _ _ _ (congrArg (fun q => q.1) (Option.some.inj hf)) (congrArg (fun q => (wLW cI cZ A (q.2.1) (q.2.2.1) (q.2.2.2.1) cu (q.2.2.2.2.1) (q.2.2.2.2.2.1) (q.2.2.2.2.2.2) cg)) (Option.some.inj hf)) rfl (by omega) (by omega) dL_does_280 hP hD hS
                              have hf := if_f e2 hf
                              by_cases e3 : kx = 3
                              · have hf := if_t e3 hf
                                subst e3
                                refine vx_catch (own := RL) (name := xn 3) hown [(⟨0, 268, 269, 72⟩ : ExceptionTableEntry), (⟨0, 268, 275, 74⟩ : ExceptionTableEntry)] (⟨0, 268, 281, 76⟩ : ExceptionTableEntry) [] (by rw [hex]; rfl) (List.forall_mem_cons.mpr ⟨Or.inr ⟨by decide, xn 1, cc1, hX.2.2.1 (3, 1) (by decide)⟩, (List.forall_mem_cons.mpr ⟨Or.inr ⟨by decide, xn 2, cc2, hX.2.2.1 (3, 2) (by decide)⟩, (fun z hz => absurd hz List.not_mem_nil)⟩)⟩) (by decide) (by decide) cc3 (va_any rfl (hX.2.1 3 (by decide))) hce hcv hcl ?_
                                refine lv_astore (lv' := [(7, .ref q9), (0, .ref (A 0)), (1, .int x1), (2, .int x2), (3, .int x3), (4, .int x4), (5, .int x5), (6, .int x6)]) hx hb dL_does_281 hl (by decide) rfl (fun ls hl => ?_)
                                refine lv_sipush (v := (-1000)) hx hb dL_does_283 (by decide) ?_
                                exact hR _ ls H locs _ _ _ _ (congrArg (fun q => q.1) (Option.some.inj hf)) (congrArg (fun q => (wLW cI cZ A (q.2.1) (q.2.2.1) (q.2.2.2.1) cu (q.2.2.2.2.1) (q.2.2.2.2.2.1) (q.2.2.2.2.2.2) cg)) (Option.some.inj hf)) rfl (by omega) (by omega) dL_does_286 hP hD hS
                              have hf := if_f e3 hf
                              cases hf
                        · have hf := if_t c187 hf
                          refine lv_aload_n hx hb dL_does_190 rfl (lv_at hl 0 rfl) ?_
                          refine lv_iload_n hx hb dL_does_191 rfl (lv_at hl 2 rfl) ?_
                          refine lv_iload_n hx hb dL_does_192 rfl (lv_at hl 3 rfl) ?_
                          rcases hx_t hf with ⟨q193, h193, hf⟩ | ⟨kx, h193, hf⟩
                          · refine cl_i (va_runV (As := [.int x2, .int x3]) (rest := []) S (mX5_holds l D cI cZ (aLW_X5_0_1_2_3_4_5_6 A) cs cw ct cu cl cb cp x2 x3 H.size q193 h193) (cwV 2 hts gL_does_X5_holds rfl rfl rfl (by decide +kernel) ⟨Nat.le_of_ble_eq_true rfl, Nat.le_of_ble_eq_true rfl⟩) (mP_V (ci := 5) (cutLW_X5_0_1_2_3_4_5_6 _ _ _ _ _ _ _ _ _ _ _ st0 st0 st0 st0 st0 st0 st0) hP hD hK hG rfl (gX5_0 _ _ _ _ _ _ _ _ _ _)) rfl rfl hl.1 rfl (lv_room (Nat.le_of_ble_eq_true rfl)) dL_does_193 ⟨by show _ ≤ 1; omega, by show _ ≤ 6; omega⟩) (cutLW_X5_0_1_2_3_4_5_6 _ _ _ _ _ _ _ _ _ _ _ _ _ _ _ _ _ _) hP hD hS hA (fun H locs hP hD hS => ?_)
                            refine lv_goto (tgt := 268) hx hb dL_does_196 (by decide) ?_
                            exact hR _ ls H locs _ _ _ _ (congrArg (fun q => q.1) (Option.some.inj hf)) (congrArg (fun q => (wLW cI cZ A (q.2.1) (q.2.2.1) (q.2.2.2.1) cu (q.2.2.2.2.1) (q.2.2.2.2.2.1) (q.2.2.2.2.2.2) cg)) (Option.some.inj hf)) rfl (by omega) (by omega) dL_does_268 hP hD hS
                          · refine clx_i (k := kx) (vx_runV (As := [.int x2, .int x3]) (rest := []) S (xX5_holds l hfl D cI cZ (aLW_X5_0_1_2_3_4_5_6 A) cs cw ct cu cl cb cp x2 x3 H.size kx h193) (cwV 2 hts gL_does_X5_holds rfl rfl rfl (by decide +kernel) ⟨Nat.le_of_ble_eq_true rfl, Nat.le_of_ble_eq_true rfl⟩) (xP_V (ci := 5) (cutLW_X5_0_1_2_3_4_5_6 _ _ _ _ _ _ _ _ _ _ _ st0 st0 st0 st0 st0 st0 st0) hP hD hS hA hK hG hX hZ rfl (gX5_0 _ _ _ _ _ _ _ _ _ _)) rfl rfl hl.1 rfl (lv_room (Nat.le_of_ble_eq_true rfl)) dL_does_193 ⟨Nat.le_of_ble_eq_true rfl, Nat.le_of_ble_eq_true rfl⟩) (cutLW_X5_0_1_2_3_4_5_6 _ _ _ _ _ _ _ _ _ _ _ _ _ _ _ _ _ _) rfl hP hD hS hA (fun E ce q9 H locs hE hce hcv hcl hP hD hS => ?_)
                            subst hE
                            by_cases e1 : kx = 1
                            · have hf := if_t e1 hf
                              subst e1
                              refine vx_catch (own := RL) (name := xn 1) hown [] (⟨0, 268, 269, 72⟩ : ExceptionTableEntry) [(⟨0, 268, 275, 74⟩ : ExceptionTableEntry), (⟨0, 268, 281, 76⟩ : ExceptionTableEntry)] (by rw [hex]; rfl) (fun z hz => absurd hz List.not_mem_nil) (by decide) (by decide) cc1 (va_any rfl (hX.2.1 1 (by decide))) hce hcv hcl ?_
                              refine lv_astore (lv' := [(7, .ref q9), (0, .ref (A 0)), (1, .int x1), (2, .int x2), (3, .int x3), (4, .int x4), (5, .int x5), (6, .int x6)]) hx hb dL_does_269 hl (by decide) rfl (fun ls hl => ?_)
                              refine lv_sipush (v := (-3000)) hx hb dL_does_271 (by decide) ?_
                              exact hR _ ls H locs _ _ _ _ (congrArg (fun q => q.1) (Option.some.inj hf)) (congrArg (fun q => (wLW cI cZ A (q.2.1) (q.2.2.1) (q.2.2.2.1) cu (q.2.2.2.2.1) (q.2.2.2.2.2.1) (q.2.2.2.2.2.2) cg)) (Option.some.inj hf)) rfl (by omega) (by omega) dL_does_274 hP hD hS
                            have hf := if_f e1 hf
                            by_cases e2 : kx = 2
                            · have hf := if_t e2 hf
                              subst e2
                              refine vx_catch (own := RL) (name := xn 2) hown [(⟨0, 268, 269, 72⟩ : ExceptionTableEntry)] (⟨0, 268, 275, 74⟩ : ExceptionTableEntry) [(⟨0, 268, 281, 76⟩ : ExceptionTableEntry)] (by rw [hex]; rfl) (List.forall_mem_cons.mpr ⟨Or.inr ⟨by decide, xn 1, cc1, hX.2.2.1 (2, 1) (by decide)⟩, (fun z hz => absurd hz List.not_mem_nil)⟩) (by decide) (by decide) cc2 (va_any rfl (hX.2.1 2 (by decide))) hce hcv hcl ?_
                              refine lv_astore (lv' := [(7, .ref q9), (0, .ref (A 0)), (1, .int x1), (2, .int x2), (3, .int x3), (4, .int x4), (5, .int x5), (6, .int x6)]) hx hb dL_does_275 hl (by decide) rfl (fun ls hl => ?_)
                              refine lv_sipush (v := (-2000)) hx hb dL_does_277 (by decide) ?_
                              exact hR _ ls H locs _ _ _ _ (congrArg (fun q => q.1) (Option.some.inj hf)) (congrArg (fun q => (wLW cI cZ A (q.2.1) (q.2.2.1) (q.2.2.2.1) cu (q.2.2.2.2.1) (q.2.2.2.2.2.1) (q.2.2.2.2.2.2) cg)) (Option.some.inj hf)) rfl (by omega) (by omega) dL_does_280 hP hD hS
                            have hf := if_f e2 hf
                            by_cases e3 : kx = 3
                            · have hf := if_t e3 hf
                              subst e3
                              refine vx_catch (own := RL) (name := xn 3) hown [(⟨0, 268, 269, 72⟩ : ExceptionTableEntry), (⟨0, 268, 275, 74⟩ : ExceptionTableEntry)] (⟨0, 268, 281, 76⟩ : ExceptionTableEntry) [] (by rw [hex]; rfl) (List.forall_mem_cons.mpr ⟨Or.inr ⟨by decide, xn 1, cc1, hX.2.2.1 (3, 1) (by decide)⟩, (List.forall_mem_cons.mpr ⟨Or.inr ⟨by decide, xn 2, cc2, hX.2.2.1 (3, 2) (by decide)⟩, (fun z hz => absurd hz List.not_mem_nil)⟩)⟩) (by decide) (by decide) cc3 (va_any rfl (hX.2.1 3 (by decide))) hce hcv hcl ?_
                              refine lv_astore (lv' := [(7, .ref q9), (0, .ref (A 0)), (1, .int x1), (2, .int x2), (3, .int x3), (4, .int x4), (5, .int x5), (6, .int x6)]) hx hb dL_does_281 hl (by decide) rfl (fun ls hl => ?_)
                              refine lv_sipush (v := (-1000)) hx hb dL_does_283 (by decide) ?_
                              exact hR _ ls H locs _ _ _ _ (congrArg (fun q => q.1) (Option.some.inj hf)) (congrArg (fun q => (wLW cI cZ A (q.2.1) (q.2.2.1) (q.2.2.2.1) cu (q.2.2.2.2.1) (q.2.2.2.2.2.1) (q.2.2.2.2.2.2) cg)) (Option.some.inj hf)) rfl (by omega) (by omega) dL_does_286 hP hD hS
                            have hf := if_f e3 hf
                            cases hf
                      · have hf := if_t c168 hf
                        refine lv_aload_n hx hb dL_does_171 rfl (lv_at hl 0 rfl) ?_
                        refine lv_iload_n hx hb dL_does_172 rfl (lv_at hl 2 rfl) ?_
                        refine lv_iload_n hx hb dL_does_173 rfl (lv_at hl 3 rfl) ?_
                        refine lv_iload hx hb dL_does_174 (lv_at hl 4 rfl) ?_
                        refine lv_iload hx hb dL_does_176 (lv_at hl 5 rfl) ?_
                        rcases hx_t hf with ⟨q178, h178, hf⟩ | ⟨kx, h178, hf⟩
                        · refine cl_i (va_runV (As := [.int x2, .int x3, .int x4, .int x5]) (rest := []) S (mX5_send l D cI cZ (aLW_X5_0_1_2_3_4_5_6 A) cs cw ct cu cl cb cp x2 x3 x4 x5 H.size q178 h178) (cwV 4 hts gL_does_X5_send rfl rfl rfl (by decide +kernel) ⟨Nat.le_of_ble_eq_true rfl, Nat.le_of_ble_eq_true rfl⟩) (mP_V (ci := 5) (cutLW_X5_0_1_2_3_4_5_6 _ _ _ _ _ _ _ _ _ _ _ st0 st0 st0 st0 st0 st0 st0) hP hD hK hG rfl (gX5_0 _ _ _ _ _ _ _ _ _ _)) rfl rfl hl.1 rfl (lv_room (Nat.le_of_ble_eq_true rfl)) dL_does_178 ⟨by show _ ≤ 1; omega, by show _ ≤ 6; omega⟩) (cutLW_X5_0_1_2_3_4_5_6 _ _ _ _ _ _ _ _ _ _ _ _ _ _ _ _ _ _) hP hD hS hA (fun H locs hP hD hS => ?_)
                          refine lv_goto (tgt := 268) hx hb dL_does_181 (by decide) ?_
                          exact hR _ ls H locs _ _ _ _ (congrArg (fun q => q.1) (Option.some.inj hf)) (congrArg (fun q => (wLW cI cZ A (q.2.1) (q.2.2.1) (q.2.2.2.1) cu (q.2.2.2.2.1) (q.2.2.2.2.2.1) (q.2.2.2.2.2.2) cg)) (Option.some.inj hf)) rfl (by omega) (by omega) dL_does_268 hP hD hS
                        · refine clx_i (k := kx) (vx_runV (As := [.int x2, .int x3, .int x4, .int x5]) (rest := []) S (xX5_send l hfl D cI cZ (aLW_X5_0_1_2_3_4_5_6 A) cs cw ct cu cl cb cp x2 x3 x4 x5 H.size kx h178) (cwV 4 hts gL_does_X5_send rfl rfl rfl (by decide +kernel) ⟨Nat.le_of_ble_eq_true rfl, Nat.le_of_ble_eq_true rfl⟩) (xP_V (ci := 5) (cutLW_X5_0_1_2_3_4_5_6 _ _ _ _ _ _ _ _ _ _ _ st0 st0 st0 st0 st0 st0 st0) hP hD hS hA hK hG hX hZ rfl (gX5_0 _ _ _ _ _ _ _ _ _ _)) rfl rfl hl.1 rfl (lv_room (Nat.le_of_ble_eq_true rfl)) dL_does_178 ⟨Nat.le_of_ble_eq_true rfl, Nat.le_of_ble_eq_true rfl⟩) (cutLW_X5_0_1_2_3_4_5_6 _ _ _ _ _ _ _ _ _ _ _ _ _ _ _ _ _ _) rfl hP hD hS hA (fun E ce q9 H locs hE hce hcv hcl hP hD hS => ?_)
                          subst hE
                          by_cases e1 : kx = 1
                          · have hf := if_t e1 hf
                            subst e1
                            refine vx_catch (own := RL) (name := xn 1) hown [] (⟨0, 268, 269, 72⟩ : ExceptionTableEntry) [(⟨0, 268, 275, 74⟩ : ExceptionTableEntry), (⟨0, 268, 281, 76⟩ : ExceptionTableEntry)] (by rw [hex]; rfl) (fun z hz => absurd hz List.not_mem_nil) (by decide) (by decide) cc1 (va_any rfl (hX.2.1 1 (by decide))) hce hcv hcl ?_
                            refine lv_astore (lv' := [(7, .ref q9), (0, .ref (A 0)), (1, .int x1), (2, .int x2), (3, .int x3), (4, .int x4), (5, .int x5), (6, .int x6)]) hx hb dL_does_269 hl (by decide) rfl (fun ls hl => ?_)
                            refine lv_sipush (v := (-3000)) hx hb dL_does_271 (by decide) ?_
                            exact hR _ ls H locs _ _ _ _ (congrArg (fun q => q.1) (Option.some.inj hf)) (congrArg (fun q => (wLW cI cZ A (q.2.1) (q.2.2.1) (q.2.2.2.1) cu (q.2.2.2.2.1) (q.2.2.2.2.2.1) (q.2.2.2.2.2.2) cg)) (Option.some.inj hf)) rfl (by omega) (by omega) dL_does_274 hP hD hS
                          have hf := if_f e1 hf
                          by_cases e2 : kx = 2
                          · have hf := if_t e2 hf
                            subst e2
                            refine vx_catch (own := RL) (name := xn 2) hown [(⟨0, 268, 269, 72⟩ : ExceptionTableEntry)] (⟨0, 268, 275, 74⟩ : ExceptionTableEntry) [(⟨0, 268, 281, 76⟩ : ExceptionTableEntry)] (by rw [hex]; rfl) (List.forall_mem_cons.mpr ⟨Or.inr ⟨by decide, xn 1, cc1, hX.2.2.1 (2, 1) (by decide)⟩, (fun z hz => absurd hz List.not_mem_nil)⟩) (by decide) (by decide) cc2 (va_any rfl (hX.2.1 2 (by decide))) hce hcv hcl ?_
                            refine lv_astore (lv' := [(7, .ref q9), (0, .ref (A 0)), (1, .int x1), (2, .int x2), (3, .int x3), (4, .int x4), (5, .int x5), (6, .int x6)]) hx hb dL_does_275 hl (by decide) rfl (fun ls hl => ?_)
                            refine lv_sipush (v := (-2000)) hx hb dL_does_277 (by decide) ?_
                            exact hR _ ls H locs _ _ _ _ (congrArg (fun q => q.1) (Option.some.inj hf)) (congrArg (fun q => (wLW cI cZ A (q.2.1) (q.2.2.1) (q.2.2.2.1) cu (q.2.2.2.2.1) (q.2.2.2.2.2.1) (q.2.2.2.2.2.2) cg)) (Option.some.inj hf)) rfl (by omega) (by omega) dL_does_280 hP hD hS
                          have hf := if_f e2 hf
                          by_cases e3 : kx = 3
                          · have hf := if_t e3 hf
                            subst e3
                            refine vx_catch (own := RL) (name := xn 3) hown [(⟨0, 268, 269, 72⟩ : ExceptionTableEntry), (⟨0, 268, 275, 74⟩ : ExceptionTableEntry)] (⟨0, 268, 281, 76⟩ : ExceptionTableEntry) [] (by rw [hex]; rfl) (List.forall_mem_cons.mpr ⟨Or.inr ⟨by decide, xn 1, cc1, hX.2.2.1 (3, 1) (by decide)⟩, (List.forall_mem_cons.mpr ⟨Or.inr ⟨by decide, xn 2, cc2, hX.2.2.1 (3, 2) (by decide)⟩, (fun z hz => absurd hz List.not_mem_nil)⟩)⟩) (by decide) (by decide) cc3 (va_any rfl (hX.2.1 3 (by decide))) hce hcv hcl ?_
                            refine lv_astore (lv' := [(7, .ref q9), (0, .ref (A 0)), (1, .int x1), (2, .int x2), (3, .int x3), (4, .int x4), (5, .int x5), (6, .int x6)]) hx hb dL_does_281 hl (by decide) rfl (fun ls hl => ?_)
                            refine lv_sipush (v := (-1000)) hx hb dL_does_283 (by decide) ?_
                            exact hR _ ls H locs _ _ _ _ (congrArg (fun q => q.1) (Option.some.inj hf)) (congrArg (fun q => (wLW cI cZ A (q.2.1) (q.2.2.1) (q.2.2.2.1) cu (q.2.2.2.2.1) (q.2.2.2.2.2.1) (q.2.2.2.2.2.2) cg)) (Option.some.inj hf)) rfl (by omega) (by omega) dL_does_286 hP hD hS
                          have hf := if_f e3 hf
                          cases hf
                    · have hf := if_t c154 hf
                      refine lv_aload_n hx hb dL_does_157 rfl (lv_at hl 0 rfl) ?_
                      refine lv_iload_n hx hb dL_does_158 rfl (lv_at hl 2 rfl) ?_
                      rcases hx_t hf with ⟨q159, h159, hf⟩ | ⟨kx, h159, hf⟩
                      · refine cl_i (va_runV (As := [.int x2]) (rest := []) S (mX5_beat l D cI cZ (aLW_X5_0_1_2_3_4_5_6 A) cs cw ct cu cl cb cp x2 H.size q159 h159) (cwV 1 hts gL_does_X5_beat rfl rfl rfl (by decide +kernel) ⟨Nat.le_of_ble_eq_true rfl, Nat.le_of_ble_eq_true rfl⟩) (mP_V (ci := 5) (cutLW_X5_0_1_2_3_4_5_6 _ _ _ _ _ _ _ _ _ _ _ st0 st0 st0 st0 st0 st0 st0) hP hD hK hG rfl (gX5_0 _ _ _ _ _ _ _ _ _ _)) rfl rfl hl.1 rfl (lv_room (Nat.le_of_ble_eq_true rfl)) dL_does_159 ⟨by show _ ≤ 1; omega, by show _ ≤ 6; omega⟩) (cutLW_X5_0_1_2_3_4_5_6 _ _ _ _ _ _ _ _ _ _ _ _ _ _ _ _ _ _) hP hD hS hA (fun H locs hP hD hS => ?_)
                        refine lv_goto (tgt := 268) hx hb dL_does_162 (by decide) ?_
                        exact hR _ ls H locs _ _ _ _ (congrArg (fun q => q.1) (Option.some.inj hf)) (congrArg (fun q => (wLW cI cZ A (q.2.1) (q.2.2.1) (q.2.2.2.1) cu (q.2.2.2.2.1) (q.2.2.2.2.2.1) (q.2.2.2.2.2.2) cg)) (Option.some.inj hf)) rfl (by omega) (by omega) dL_does_268 hP hD hS
                      · refine clx_i (k := kx) (vx_runV (As := [.int x2]) (rest := []) S (xX5_beat l hfl D cI cZ (aLW_X5_0_1_2_3_4_5_6 A) cs cw ct cu cl cb cp x2 H.size kx h159) (cwV 1 hts gL_does_X5_beat rfl rfl rfl (by decide +kernel) ⟨Nat.le_of_ble_eq_true rfl, Nat.le_of_ble_eq_true rfl⟩) (xP_V (ci := 5) (cutLW_X5_0_1_2_3_4_5_6 _ _ _ _ _ _ _ _ _ _ _ st0 st0 st0 st0 st0 st0 st0) hP hD hS hA hK hG hX hZ rfl (gX5_0 _ _ _ _ _ _ _ _ _ _)) rfl rfl hl.1 rfl (lv_room (Nat.le_of_ble_eq_true rfl)) dL_does_159 ⟨Nat.le_of_ble_eq_true rfl, Nat.le_of_ble_eq_true rfl⟩) (cutLW_X5_0_1_2_3_4_5_6 _ _ _ _ _ _ _ _ _ _ _ _ _ _ _ _ _ _) rfl hP hD hS hA (fun E ce q9 H locs hE hce hcv hcl hP hD hS => ?_)
                        subst hE
                        by_cases e1 : kx = 1
                        · have hf := if_t e1 hf
                          subst e1
                          refine vx_catch (own := RL) (name := xn 1) hown [] (⟨0, 268, 269, 72⟩ : ExceptionTableEntry) [(⟨0, 268, 275, 74⟩ : ExceptionTableEntry), (⟨0, 268, 281, 76⟩ : ExceptionTableEntry)] (by rw [hex]; rfl) (fun z hz => absurd hz List.not_mem_nil) (by decide) (by decide) cc1 (va_any rfl (hX.2.1 1 (by decide))) hce hcv hcl ?_
                          refine lv_astore (lv' := [(7, .ref q9), (0, .ref (A 0)), (1, .int x1), (2, .int x2), (3, .int x3), (4, .int x4), (5, .int x5), (6, .int x6)]) hx hb dL_does_269 hl (by decide) rfl (fun ls hl => ?_)
                          refine lv_sipush (v := (-3000)) hx hb dL_does_271 (by decide) ?_
                          exact hR _ ls H locs _ _ _ _ (congrArg (fun q => q.1) (Option.some.inj hf)) (congrArg (fun q => (wLW cI cZ A (q.2.1) (q.2.2.1) (q.2.2.2.1) cu (q.2.2.2.2.1) (q.2.2.2.2.2.1) (q.2.2.2.2.2.2) cg)) (Option.some.inj hf)) rfl (by omega) (by omega) dL_does_274 hP hD hS
                        have hf := if_f e1 hf
                        by_cases e2 : kx = 2
                        · have hf := if_t e2 hf
                          subst e2
                          refine vx_catch (own := RL) (name := xn 2) hown [(⟨0, 268, 269, 72⟩ : ExceptionTableEntry)] (⟨0, 268, 275, 74⟩ : ExceptionTableEntry) [(⟨0, 268, 281, 76⟩ : ExceptionTableEntry)] (by rw [hex]; rfl) (List.forall_mem_cons.mpr ⟨Or.inr ⟨by decide, xn 1, cc1, hX.2.2.1 (2, 1) (by decide)⟩, (fun z hz => absurd hz List.not_mem_nil)⟩) (by decide) (by decide) cc2 (va_any rfl (hX.2.1 2 (by decide))) hce hcv hcl ?_
                          refine lv_astore (lv' := [(7, .ref q9), (0, .ref (A 0)), (1, .int x1), (2, .int x2), (3, .int x3), (4, .int x4), (5, .int x5), (6, .int x6)]) hx hb dL_does_275 hl (by decide) rfl (fun ls hl => ?_)
                          refine lv_sipush (v := (-2000)) hx hb dL_does_277 (by decide) ?_
                          exact hR _ ls H locs _ _ _ _ (congrArg (fun q => q.1) (Option.some.inj hf)) (congrArg (fun q => (wLW cI cZ A (q.2.1) (q.2.2.1) (q.2.2.2.1) cu (q.2.2.2.2.1) (q.2.2.2.2.2.1) (q.2.2.2.2.2.2) cg)) (Option.some.inj hf)) rfl (by omega) (by omega) dL_does_280 hP hD hS
                        have hf := if_f e2 hf
                        by_cases e3 : kx = 3
                        · have hf := if_t e3 hf
                          subst e3
                          refine vx_catch (own := RL) (name := xn 3) hown [(⟨0, 268, 269, 72⟩ : ExceptionTableEntry), (⟨0, 268, 275, 74⟩ : ExceptionTableEntry)] (⟨0, 268, 281, 76⟩ : ExceptionTableEntry) [] (by rw [hex]; rfl) (List.forall_mem_cons.mpr ⟨Or.inr ⟨by decide, xn 1, cc1, hX.2.2.1 (3, 1) (by decide)⟩, (List.forall_mem_cons.mpr ⟨Or.inr ⟨by decide, xn 2, cc2, hX.2.2.1 (3, 2) (by decide)⟩, (fun z hz => absurd hz List.not_mem_nil)⟩)⟩) (by decide) (by decide) cc3 (va_any rfl (hX.2.1 3 (by decide))) hce hcv hcl ?_
                          refine lv_astore (lv' := [(7, .ref q9), (0, .ref (A 0)), (1, .int x1), (2, .int x2), (3, .int x3), (4, .int x4), (5, .int x5), (6, .int x6)]) hx hb dL_does_281 hl (by decide) rfl (fun ls hl => ?_)
                          refine lv_sipush (v := (-1000)) hx hb dL_does_283 (by decide) ?_
                          exact hR _ ls H locs _ _ _ _ (congrArg (fun q => q.1) (Option.some.inj hf)) (congrArg (fun q => (wLW cI cZ A (q.2.1) (q.2.2.1) (q.2.2.2.1) cu (q.2.2.2.2.1) (q.2.2.2.2.2.1) (q.2.2.2.2.2.2) cg)) (Option.some.inj hf)) rfl (by omega) (by omega) dL_does_286 hP hD hS
                        have hf := if_f e3 hf
                        cases hf
                  · have hf := if_t c140 hf
                    refine lv_aload_n hx hb dL_does_143 rfl (lv_at hl 0 rfl) ?_
                    refine lv_iload_n hx hb dL_does_144 rfl (lv_at hl 2 rfl) ?_
                    rcases hx_t hf with ⟨q145, h145, hf⟩ | ⟨kx, h145, hf⟩
                    · refine cl_i (va_runV (As := [.int x2]) (rest := []) S (mX5_limit l D cI cZ (aLW_X5_0_1_2_3_4_5_6 A) cs cw ct cu cl cb cp x2 H.size q145 h145) (cwV 1 hts gL_does_X5_limit rfl rfl rfl (by decide +kernel) ⟨Nat.le_of_ble_eq_true rfl, Nat.le_of_ble_eq_true rfl⟩) (mP_V (ci := 5) (cutLW_X5_0_1_2_3_4_5_6 _ _ _ _ _ _ _ _ _ _ _ st0 st0 st0 st0 st0 st0 st0) hP hD hK hG rfl (gX5_0 _ _ _ _ _ _ _ _ _ _)) rfl rfl hl.1 rfl (lv_room (Nat.le_of_ble_eq_true rfl)) dL_does_145 ⟨by show _ ≤ 1; omega, by show _ ≤ 6; omega⟩) (cutLW_X5_0_1_2_3_4_5_6 _ _ _ _ _ _ _ _ _ _ _ _ _ _ _ _ _ _) hP hD hS hA (fun H locs hP hD hS => ?_)
                      refine lv_goto (tgt := 268) hx hb dL_does_148 (by decide) ?_
                      exact hR _ ls H locs _ _ _ _ (congrArg (fun q => q.1) (Option.some.inj hf)) (congrArg (fun q => (wLW cI cZ A (q.2.1) (q.2.2.1) (q.2.2.2.1) cu (q.2.2.2.2.1) (q.2.2.2.2.2.1) (q.2.2.2.2.2.2) cg)) (Option.some.inj hf)) rfl (by omega) (by omega) dL_does_268 hP hD hS
                    · refine clx_i (k := kx) (vx_runV (As := [.int x2]) (rest := []) S (xX5_limit l hfl D cI cZ (aLW_X5_0_1_2_3_4_5_6 A) cs cw ct cu cl cb cp x2 H.size kx h145) (cwV 1 hts gL_does_X5_limit rfl rfl rfl (by decide +kernel) ⟨Nat.le_of_ble_eq_true rfl, Nat.le_of_ble_eq_true rfl⟩) (xP_V (ci := 5) (cutLW_X5_0_1_2_3_4_5_6 _ _ _ _ _ _ _ _ _ _ _ st0 st0 st0 st0 st0 st0 st0) hP hD hS hA hK hG hX hZ rfl (gX5_0 _ _ _ _ _ _ _ _ _ _)) rfl rfl hl.1 rfl (lv_room (Nat.le_of_ble_eq_true rfl)) dL_does_145 ⟨Nat.le_of_ble_eq_true rfl, Nat.le_of_ble_eq_true rfl⟩) (cutLW_X5_0_1_2_3_4_5_6 _ _ _ _ _ _ _ _ _ _ _ _ _ _ _ _ _ _) rfl hP hD hS hA (fun E ce q9 H locs hE hce hcv hcl hP hD hS => ?_)
                      subst hE
                      by_cases e1 : kx = 1
                      · have hf := if_t e1 hf
                        subst e1
                        refine vx_catch (own := RL) (name := xn 1) hown [] (⟨0, 268, 269, 72⟩ : ExceptionTableEntry) [(⟨0, 268, 275, 74⟩ : ExceptionTableEntry), (⟨0, 268, 281, 76⟩ : ExceptionTableEntry)] (by rw [hex]; rfl) (fun z hz => absurd hz List.not_mem_nil) (by decide) (by decide) cc1 (va_any rfl (hX.2.1 1 (by decide))) hce hcv hcl ?_
                        refine lv_astore (lv' := [(7, .ref q9), (0, .ref (A 0)), (1, .int x1), (2, .int x2), (3, .int x3), (4, .int x4), (5, .int x5), (6, .int x6)]) hx hb dL_does_269 hl (by decide) rfl (fun ls hl => ?_)
                        refine lv_sipush (v := (-3000)) hx hb dL_does_271 (by decide) ?_
                        exact hR _ ls H locs _ _ _ _ (congrArg (fun q => q.1) (Option.some.inj hf)) (congrArg (fun q => (wLW cI cZ A (q.2.1) (q.2.2.1) (q.2.2.2.1) cu (q.2.2.2.2.1) (q.2.2.2.2.2.1) (q.2.2.2.2.2.2) cg)) (Option.some.inj hf)) rfl (by omega) (by omega) dL_does_274 hP hD hS
                      have hf := if_f e1 hf
                      by_cases e2 : kx = 2
                      · have hf := if_t e2 hf
                        subst e2
                        refine vx_catch (own := RL) (name := xn 2) hown [(⟨0, 268, 269, 72⟩ : ExceptionTableEntry)] (⟨0, 268, 275, 74⟩ : ExceptionTableEntry) [(⟨0, 268, 281, 76⟩ : ExceptionTableEntry)] (by rw [hex]; rfl) (List.forall_mem_cons.mpr ⟨Or.inr ⟨by decide, xn 1, cc1, hX.2.2.1 (2, 1) (by decide)⟩, (fun z hz => absurd hz List.not_mem_nil)⟩) (by decide) (by decide) cc2 (va_any rfl (hX.2.1 2 (by decide))) hce hcv hcl ?_
                        refine lv_astore (lv' := [(7, .ref q9), (0, .ref (A 0)), (1, .int x1), (2, .int x2), (3, .int x3), (4, .int x4), (5, .int x5), (6, .int x6)]) hx hb dL_does_275 hl (by decide) rfl (fun ls hl => ?_)
                        refine lv_sipush (v := (-2000)) hx hb dL_does_277 (by decide) ?_
                        exact hR _ ls H locs _ _ _ _ (congrArg (fun q => q.1) (Option.some.inj hf)) (congrArg (fun q => (wLW cI cZ A (q.2.1) (q.2.2.1) (q.2.2.2.1) cu (q.2.2.2.2.1) (q.2.2.2.2.2.1) (q.2.2.2.2.2.2) cg)) (Option.some.inj hf)) rfl (by omega) (by omega) dL_does_280 hP hD hS
                      have hf := if_f e2 hf
                      by_cases e3 : kx = 3
                      · have hf := if_t e3 hf
                        subst e3
                        refine vx_catch (own := RL) (name := xn 3) hown [(⟨0, 268, 269, 72⟩ : ExceptionTableEntry), (⟨0, 268, 275, 74⟩ : ExceptionTableEntry)] (⟨0, 268, 281, 76⟩ : ExceptionTableEntry) [] (by rw [hex]; rfl) (List.forall_mem_cons.mpr ⟨Or.inr ⟨by decide, xn 1, cc1, hX.2.2.1 (3, 1) (by decide)⟩, (List.forall_mem_cons.mpr ⟨Or.inr ⟨by decide, xn 2, cc2, hX.2.2.1 (3, 2) (by decide)⟩, (fun z hz => absurd hz List.not_mem_nil)⟩)⟩) (by decide) (by decide) cc3 (va_any rfl (hX.2.1 3 (by decide))) hce hcv hcl ?_
                        refine lv_astore (lv' := [(7, .ref q9), (0, .ref (A 0)), (1, .int x1), (2, .int x2), (3, .int x3), (4, .int x4), (5, .int x5), (6, .int x6)]) hx hb dL_does_281 hl (by decide) rfl (fun ls hl => ?_)
                        refine lv_sipush (v := (-1000)) hx hb dL_does_283 (by decide) ?_
                        exact hR _ ls H locs _ _ _ _ (congrArg (fun q => q.1) (Option.some.inj hf)) (congrArg (fun q => (wLW cI cZ A (q.2.1) (q.2.2.1) (q.2.2.2.1) cu (q.2.2.2.2.1) (q.2.2.2.2.2.1) (q.2.2.2.2.2.2) cg)) (Option.some.inj hf)) rfl (by omega) (by omega) dL_does_286 hP hD hS
                      have hf := if_f e3 hf
                      cases hf
                · have hf := if_t c121 hf
                  refine lv_aload_n hx hb dL_does_124 rfl (lv_at hl 0 rfl) ?_
                  refine lv_iload_n hx hb dL_does_125 rfl (lv_at hl 2 rfl) ?_
                  refine lv_iload_n hx hb dL_does_126 rfl (lv_at hl 3 rfl) ?_
                  refine lv_iload hx hb dL_does_127 (lv_at hl 4 rfl) ?_
                  refine lv_iload hx hb dL_does_129 (lv_at hl 5 rfl) ?_
                  rcases hx_t hf with ⟨q131, h131, hf⟩ | ⟨kx, h131, hf⟩
                  · refine cl_i (va_runS (As := [.ref (A 0), .int x2, .int x3, .int x4, .int x5]) (rest := []) S (mL_trunked l hfl D cI cZ A cs cw ct cu cl cb cp cg x2 x3 x4 x5 H.size q131 h131) (va_cwS 5 hts gL_does_L_trunked rfl rfl rfl (by decide +kernel) ⟨Nat.le_of_ble_eq_true rfl, Nat.le_of_ble_eq_true rfl⟩) (xP_S (Cut.self _ []) hP hD hS hA hK hG hX hZ) rfl rfl hl.1 rfl (lv_room (Nat.le_of_ble_eq_true rfl)) dL_does_131 ⟨by show _ ≤ 1; omega, by show _ ≤ 6; omega⟩) (Cut.self _ _) hP hD hS hA (fun H locs hP hD hS => ?_)
                    refine lv_goto (tgt := 268) hx hb dL_does_134 (by decide) ?_
                    exact hR _ ls H locs _ _ _ _ (congrArg (fun q => q.1) (Option.some.inj hf)) (congrArg (fun q => (wLW cI cZ A (q.2.1) (q.2.2.1) (q.2.2.2.1) cu (q.2.2.2.2.1) (q.2.2.2.2.2.1) (q.2.2.2.2.2.2) cg)) (Option.some.inj hf)) rfl (by omega) (by omega) dL_does_268 hP hD hS
                  · refine clx_i (k := kx) (vx_runS (As := [.ref (A 0), .int x2, .int x3, .int x4, .int x5]) (rest := []) S (xL_trunked l hfl D cI cZ A cs cw ct cu cl cb cp cg x2 x3 x4 x5 H.size kx h131) (va_cwS 5 hts gL_does_L_trunked rfl rfl rfl (by decide +kernel) ⟨Nat.le_of_ble_eq_true rfl, Nat.le_of_ble_eq_true rfl⟩) (xP_S (Cut.self _ []) hP hD hS hA hK hG hX hZ) rfl rfl hl.1 rfl (lv_room (Nat.le_of_ble_eq_true rfl)) dL_does_131 ⟨Nat.le_of_ble_eq_true rfl, Nat.le_of_ble_eq_true rfl⟩) (Cut.self _ _) rfl hP hD hS hA (fun E ce q9 H locs hE hce hcv hcl hP hD hS => ?_)
                    subst hE
                    by_cases e1 : kx = 1
                    · have hf := if_t e1 hf
                      subst e1
                      refine vx_catch (own := RL) (name := xn 1) hown [] (⟨0, 268, 269, 72⟩ : ExceptionTableEntry) [(⟨0, 268, 275, 74⟩ : ExceptionTableEntry), (⟨0, 268, 281, 76⟩ : ExceptionTableEntry)] (by rw [hex]; rfl) (fun z hz => absurd hz List.not_mem_nil) (by decide) (by decide) cc1 (va_any rfl (hX.2.1 1 (by decide))) hce hcv hcl ?_
                      refine lv_astore (lv' := [(7, .ref q9), (0, .ref (A 0)), (1, .int x1), (2, .int x2), (3, .int x3), (4, .int x4), (5, .int x5), (6, .int x6)]) hx hb dL_does_269 hl (by decide) rfl (fun ls hl => ?_)
                      refine lv_sipush (v := (-3000)) hx hb dL_does_271 (by decide) ?_
                      exact hR _ ls H locs _ _ _ _ (congrArg (fun q => q.1) (Option.some.inj hf)) (congrArg (fun q => (wLW cI cZ A (q.2.1) (q.2.2.1) (q.2.2.2.1) cu (q.2.2.2.2.1) (q.2.2.2.2.2.1) (q.2.2.2.2.2.2) cg)) (Option.some.inj hf)) rfl (by omega) (by omega) dL_does_274 hP hD hS
                    have hf := if_f e1 hf
                    by_cases e2 : kx = 2
                    · have hf := if_t e2 hf
                      subst e2
                      refine vx_catch (own := RL) (name := xn 2) hown [(⟨0, 268, 269, 72⟩ : ExceptionTableEntry)] (⟨0, 268, 275, 74⟩ : ExceptionTableEntry) [(⟨0, 268, 281, 76⟩ : ExceptionTableEntry)] (by rw [hex]; rfl) (List.forall_mem_cons.mpr ⟨Or.inr ⟨by decide, xn 1, cc1, hX.2.2.1 (2, 1) (by decide)⟩, (fun z hz => absurd hz List.not_mem_nil)⟩) (by decide) (by decide) cc2 (va_any rfl (hX.2.1 2 (by decide))) hce hcv hcl ?_
                      refine lv_astore (lv' := [(7, .ref q9), (0, .ref (A 0)), (1, .int x1), (2, .int x2), (3, .int x3), (4, .int x4), (5, .int x5), (6, .int x6)]) hx hb dL_does_275 hl (by decide) rfl (fun ls hl => ?_)
                      refine lv_sipush (v := (-2000)) hx hb dL_does_277 (by decide) ?_
                      exact hR _ ls H locs _ _ _ _ (congrArg (fun q => q.1) (Option.some.inj hf)) (congrArg (fun q => (wLW cI cZ A (q.2.1) (q.2.2.1) (q.2.2.2.1) cu (q.2.2.2.2.1) (q.2.2.2.2.2.1) (q.2.2.2.2.2.2) cg)) (Option.some.inj hf)) rfl (by omega) (by omega) dL_does_280 hP hD hS
                    have hf := if_f e2 hf
                    by_cases e3 : kx = 3
                    · have hf := if_t e3 hf
                      subst e3
                      refine vx_catch (own := RL) (name := xn 3) hown [(⟨0, 268, 269, 72⟩ : ExceptionTableEntry), (⟨0, 268, 275, 74⟩ : ExceptionTableEntry)] (⟨0, 268, 281, 76⟩ : ExceptionTableEntry) [] (by rw [hex]; rfl) (List.forall_mem_cons.mpr ⟨Or.inr ⟨by decide, xn 1, cc1, hX.2.2.1 (3, 1) (by decide)⟩, (List.forall_mem_cons.mpr ⟨Or.inr ⟨by decide, xn 2, cc2, hX.2.2.1 (3, 2) (by decide)⟩, (fun z hz => absurd hz List.not_mem_nil)⟩)⟩) (by decide) (by decide) cc3 (va_any rfl (hX.2.1 3 (by decide))) hce hcv hcl ?_
                      refine lv_astore (lv' := [(7, .ref q9), (0, .ref (A 0)), (1, .int x1), (2, .int x2), (3, .int x3), (4, .int x4), (5, .int x5), (6, .int x6)]) hx hb dL_does_281 hl (by decide) rfl (fun ls hl => ?_)
                      refine lv_sipush (v := (-1000)) hx hb dL_does_283 (by decide) ?_
                      exact hR _ ls H locs _ _ _ _ (congrArg (fun q => q.1) (Option.some.inj hf)) (congrArg (fun q => (wLW cI cZ A (q.2.1) (q.2.2.1) (q.2.2.2.1) cu (q.2.2.2.2.1) (q.2.2.2.2.2.1) (q.2.2.2.2.2.2) cg)) (Option.some.inj hf)) rfl (by omega) (by omega) dL_does_286 hP hD hS
                    have hf := if_f e3 hf
                    cases hf
              · have hf := if_t c104 hf
                refine lv_aload_n hx hb dL_does_107 rfl (lv_at hl 0 rfl) ?_
                refine lv_iload_n hx hb dL_does_108 rfl (lv_at hl 2 rfl) ?_
                refine lv_iload_n hx hb dL_does_109 rfl (lv_at hl 3 rfl) ?_
                refine lv_iload hx hb dL_does_110 (lv_at hl 4 rfl) ?_
                rcases hx_t hf with ⟨q112, h112, hf⟩ | ⟨kx, h112, hf⟩
                · refine cl_i (va_runS (As := [.ref (A 0), .int x2, .int x3, .int x4]) (rest := []) S (mL_plained l hfl D cI cZ A cs cw ct cu cl cb cp cg x2 x3 x4 H.size q112 h112) (va_cwS 4 hts gL_does_L_plained rfl rfl rfl (by decide +kernel) ⟨Nat.le_of_ble_eq_true rfl, Nat.le_of_ble_eq_true rfl⟩) (xP_S (Cut.self _ []) hP hD hS hA hK hG hX hZ) rfl rfl hl.1 rfl (lv_room (Nat.le_of_ble_eq_true rfl)) dL_does_112 ⟨by show _ ≤ 1; omega, by show _ ≤ 6; omega⟩) (Cut.self _ _) hP hD hS hA (fun H locs hP hD hS => ?_)
                  refine lv_goto (tgt := 268) hx hb dL_does_115 (by decide) ?_
                  exact hR _ ls H locs _ _ _ _ (congrArg (fun q => q.1) (Option.some.inj hf)) (congrArg (fun q => (wLW cI cZ A (q.2.1) (q.2.2.1) (q.2.2.2.1) cu (q.2.2.2.2.1) (q.2.2.2.2.2.1) (q.2.2.2.2.2.2) cg)) (Option.some.inj hf)) rfl (by omega) (by omega) dL_does_268 hP hD hS
                · refine clx_i (k := kx) (vx_runS (As := [.ref (A 0), .int x2, .int x3, .int x4]) (rest := []) S (xL_plained l hfl D cI cZ A cs cw ct cu cl cb cp cg x2 x3 x4 H.size kx h112) (va_cwS 4 hts gL_does_L_plained rfl rfl rfl (by decide +kernel) ⟨Nat.le_of_ble_eq_true rfl, Nat.le_of_ble_eq_true rfl⟩) (xP_S (Cut.self _ []) hP hD hS hA hK hG hX hZ) rfl rfl hl.1 rfl (lv_room (Nat.le_of_ble_eq_true rfl)) dL_does_112 ⟨Nat.le_of_ble_eq_true rfl, Nat.le_of_ble_eq_true rfl⟩) (Cut.self _ _) rfl hP hD hS hA (fun E ce q9 H locs hE hce hcv hcl hP hD hS => ?_)
                  subst hE
                  by_cases e1 : kx = 1
                  · have hf := if_t e1 hf
                    subst e1
                    refine vx_catch (own := RL) (name := xn 1) hown [] (⟨0, 268, 269, 72⟩ : ExceptionTableEntry) [(⟨0, 268, 275, 74⟩ : ExceptionTableEntry), (⟨0, 268, 281, 76⟩ : ExceptionTableEntry)] (by rw [hex]; rfl) (fun z hz => absurd hz List.not_mem_nil) (by decide) (by decide) cc1 (va_any rfl (hX.2.1 1 (by decide))) hce hcv hcl ?_
                    refine lv_astore (lv' := [(7, .ref q9), (0, .ref (A 0)), (1, .int x1), (2, .int x2), (3, .int x3), (4, .int x4), (5, .int x5), (6, .int x6)]) hx hb dL_does_269 hl (by decide) rfl (fun ls hl => ?_)
                    refine lv_sipush (v := (-3000)) hx hb dL_does_271 (by decide) ?_
                    exact hR _ ls H locs _ _ _ _ (congrArg (fun q => q.1) (Option.some.inj hf)) (congrArg (fun q => (wLW cI cZ A (q.2.1) (q.2.2.1) (q.2.2.2.1) cu (q.2.2.2.2.1) (q.2.2.2.2.2.1) (q.2.2.2.2.2.2) cg)) (Option.some.inj hf)) rfl (by omega) (by omega) dL_does_274 hP hD hS
                  have hf := if_f e1 hf
                  by_cases e2 : kx = 2
                  · have hf := if_t e2 hf
                    subst e2
                    refine vx_catch (own := RL) (name := xn 2) hown [(⟨0, 268, 269, 72⟩ : ExceptionTableEntry)] (⟨0, 268, 275, 74⟩ : ExceptionTableEntry) [(⟨0, 268, 281, 76⟩ : ExceptionTableEntry)] (by rw [hex]; rfl) (List.forall_mem_cons.mpr ⟨Or.inr ⟨by decide, xn 1, cc1, hX.2.2.1 (2, 1) (by decide)⟩, (fun z hz => absurd hz List.not_mem_nil)⟩) (by decide) (by decide) cc2 (va_any rfl (hX.2.1 2 (by decide))) hce hcv hcl ?_
                    refine lv_astore (lv' := [(7, .ref q9), (0, .ref (A 0)), (1, .int x1), (2, .int x2), (3, .int x3), (4, .int x4), (5, .int x5), (6, .int x6)]) hx hb dL_does_275 hl (by decide) rfl (fun ls hl => ?_)
                    refine lv_sipush (v := (-2000)) hx hb dL_does_277 (by decide) ?_
                    exact hR _ ls H locs _ _ _ _ (congrArg (fun q => q.1) (Option.some.inj hf)) (congrArg (fun q => (wLW cI cZ A (q.2.1) (q.2.2.1) (q.2.2.2.1) cu (q.2.2.2.2.1) (q.2.2.2.2.2.1) (q.2.2.2.2.2.2) cg)) (Option.some.inj hf)) rfl (by omega) (by omega) dL_does_280 hP hD hS
                  have hf := if_f e2 hf
                  by_cases e3 : kx = 3
                  · have hf := if_t e3 hf
                    subst e3
                    refine vx_catch (own := RL) (name := xn 3) hown [(⟨0, 268, 269, 72⟩ : ExceptionTableEntry), (⟨0, 268, 275, 74⟩ : ExceptionTableEntry)] (⟨0, 268, 281, 76⟩ : ExceptionTableEntry) [] (by rw [hex]; rfl) (List.forall_mem_cons.mpr ⟨Or.inr ⟨by decide, xn 1, cc1, hX.2.2.1 (3, 1) (by decide)⟩, (List.forall_mem_cons.mpr ⟨Or.inr ⟨by decide, xn 2, cc2, hX.2.2.1 (3, 2) (by decide)⟩, (fun z hz => absurd hz List.not_mem_nil)⟩)⟩) (by decide) (by decide) cc3 (va_any rfl (hX.2.1 3 (by decide))) hce hcv hcl ?_
                    refine lv_astore (lv' := [(7, .ref q9), (0, .ref (A 0)), (1, .int x1), (2, .int x2), (3, .int x3), (4, .int x4), (5, .int x5), (6, .int x6)]) hx hb dL_does_281 hl (by decide) rfl (fun ls hl => ?_)
                    refine lv_sipush (v := (-1000)) hx hb dL_does_283 (by decide) ?_
                    exact hR _ ls H locs _ _ _ _ (congrArg (fun q => q.1) (Option.some.inj hf)) (congrArg (fun q => (wLW cI cZ A (q.2.1) (q.2.2.1) (q.2.2.2.1) cu (q.2.2.2.2.1) (q.2.2.2.2.2.1) (q.2.2.2.2.2.2) cg)) (Option.some.inj hf)) rfl (by omega) (by omega) dL_does_286 hP hD hS
                  have hf := if_f e3 hf
                  cases hf
            · have hf := if_t c87 hf
              refine lv_aload_n hx hb dL_does_90 rfl (lv_at hl 0 rfl) ?_
              refine lv_iload_n hx hb dL_does_91 rfl (lv_at hl 2 rfl) ?_
              refine lv_iload_n hx hb dL_does_92 rfl (lv_at hl 3 rfl) ?_
              refine lv_iload hx hb dL_does_93 (lv_at hl 4 rfl) ?_
              rcases hx_t hf with ⟨q95, h95, hf⟩ | ⟨kx, h95, hf⟩
              · refine cl_i (va_runV (As := [.int x2, .int x3, .int x4]) (rest := []) S (mX5_guard l D cI cZ (aLW_X5_0_1_2_3_4_5_6 A) cs cw ct cu cl cb cp x2 x3 x4 H.size q95 h95) (cwV 3 hts gL_does_X5_guard rfl rfl rfl (by decide +kernel) ⟨Nat.le_of_ble_eq_true rfl, Nat.le_of_ble_eq_true rfl⟩) (mP_V (ci := 5) (cutLW_X5_0_1_2_3_4_5_6 _ _ _ _ _ _ _ _ _ _ _ st0 st0 st0 st0 st0 st0 st0) hP hD hK hG rfl (gX5_0 _ _ _ _ _ _ _ _ _ _)) rfl rfl hl.1 rfl (lv_room (Nat.le_of_ble_eq_true rfl)) dL_does_95 ⟨by show _ ≤ 1; omega, by show _ ≤ 6; omega⟩) (cutLW_X5_0_1_2_3_4_5_6 _ _ _ _ _ _ _ _ _ _ _ _ _ _ _ _ _ _) hP hD hS hA (fun H locs hP hD hS => ?_)
                refine lv_goto (tgt := 268) hx hb dL_does_98 (by decide) ?_
                exact hR _ ls H locs _ _ _ _ (congrArg (fun q => q.1) (Option.some.inj hf)) (congrArg (fun q => (wLW cI cZ A (q.2.1) (q.2.2.1) (q.2.2.2.1) cu (q.2.2.2.2.1) (q.2.2.2.2.2.1) (q.2.2.2.2.2.2) cg)) (Option.some.inj hf)) rfl (by omega) (by omega) dL_does_268 hP hD hS
              · refine clx_i (k := kx) (vx_runV (As := [.int x2, .int x3, .int x4]) (rest := []) S (xX5_guard l hfl D cI cZ (aLW_X5_0_1_2_3_4_5_6 A) cs cw ct cu cl cb cp x2 x3 x4 H.size kx h95) (cwV 3 hts gL_does_X5_guard rfl rfl rfl (by decide +kernel) ⟨Nat.le_of_ble_eq_true rfl, Nat.le_of_ble_eq_true rfl⟩) (xP_V (ci := 5) (cutLW_X5_0_1_2_3_4_5_6 _ _ _ _ _ _ _ _ _ _ _ st0 st0 st0 st0 st0 st0 st0) hP hD hS hA hK hG hX hZ rfl (gX5_0 _ _ _ _ _ _ _ _ _ _)) rfl rfl hl.1 rfl (lv_room (Nat.le_of_ble_eq_true rfl)) dL_does_95 ⟨Nat.le_of_ble_eq_true rfl, Nat.le_of_ble_eq_true rfl⟩) (cutLW_X5_0_1_2_3_4_5_6 _ _ _ _ _ _ _ _ _ _ _ _ _ _ _ _ _ _) rfl hP hD hS hA (fun E ce q9 H locs hE hce hcv hcl hP hD hS => ?_)
                subst hE
                by_cases e1 : kx = 1
                · have hf := if_t e1 hf
                  subst e1
                  refine vx_catch (own := RL) (name := xn 1) hown [] (⟨0, 268, 269, 72⟩ : ExceptionTableEntry) [(⟨0, 268, 275, 74⟩ : ExceptionTableEntry), (⟨0, 268, 281, 76⟩ : ExceptionTableEntry)] (by rw [hex]; rfl) (fun z hz => absurd hz List.not_mem_nil) (by decide) (by decide) cc1 (va_any rfl (hX.2.1 1 (by decide))) hce hcv hcl ?_
                  refine lv_astore (lv' := [(7, .ref q9), (0, .ref (A 0)), (1, .int x1), (2, .int x2), (3, .int x3), (4, .int x4), (5, .int x5), (6, .int x6)]) hx hb dL_does_269 hl (by decide) rfl (fun ls hl => ?_)
                  refine lv_sipush (v := (-3000)) hx hb dL_does_271 (by decide) ?_
                  exact hR _ ls H locs _ _ _ _ (congrArg (fun q => q.1) (Option.some.inj hf)) (congrArg (fun q => (wLW cI cZ A (q.2.1) (q.2.2.1) (q.2.2.2.1) cu (q.2.2.2.2.1) (q.2.2.2.2.2.1) (q.2.2.2.2.2.2) cg)) (Option.some.inj hf)) rfl (by omega) (by omega) dL_does_274 hP hD hS
                have hf := if_f e1 hf
                by_cases e2 : kx = 2
                · have hf := if_t e2 hf
                  subst e2
                  refine vx_catch (own := RL) (name := xn 2) hown [(⟨0, 268, 269, 72⟩ : ExceptionTableEntry)] (⟨0, 268, 275, 74⟩ : ExceptionTableEntry) [(⟨0, 268, 281, 76⟩ : ExceptionTableEntry)] (by rw [hex]; rfl) (List.forall_mem_cons.mpr ⟨Or.inr ⟨by decide, xn 1, cc1, hX.2.2.1 (2, 1) (by decide)⟩, (fun z hz => absurd hz List.not_mem_nil)⟩) (by decide) (by decide) cc2 (va_any rfl (hX.2.1 2 (by decide))) hce hcv hcl ?_
                  refine lv_astore (lv' := [(7, .ref q9), (0, .ref (A 0)), (1, .int x1), (2, .int x2), (3, .int x3), (4, .int x4), (5, .int x5), (6, .int x6)]) hx hb dL_does_275 hl (by decide) rfl (fun ls hl => ?_)
                  refine lv_sipush (v := (-2000)) hx hb dL_does_277 (by decide) ?_
                  exact hR _ ls H locs _ _ _ _ (congrArg (fun q => q.1) (Option.some.inj hf)) (congrArg (fun q => (wLW cI cZ A (q.2.1) (q.2.2.1) (q.2.2.2.1) cu (q.2.2.2.2.1) (q.2.2.2.2.2.1) (q.2.2.2.2.2.2) cg)) (Option.some.inj hf)) rfl (by omega) (by omega) dL_does_280 hP hD hS
                have hf := if_f e2 hf
                by_cases e3 : kx = 3
                · have hf := if_t e3 hf
                  subst e3
                  refine vx_catch (own := RL) (name := xn 3) hown [(⟨0, 268, 269, 72⟩ : ExceptionTableEntry), (⟨0, 268, 275, 74⟩ : ExceptionTableEntry)] (⟨0, 268, 281, 76⟩ : ExceptionTableEntry) [] (by rw [hex]; rfl) (List.forall_mem_cons.mpr ⟨Or.inr ⟨by decide, xn 1, cc1, hX.2.2.1 (3, 1) (by decide)⟩, (List.forall_mem_cons.mpr ⟨Or.inr ⟨by decide, xn 2, cc2, hX.2.2.1 (3, 2) (by decide)⟩, (fun z hz => absurd hz List.not_mem_nil)⟩)⟩) (by decide) (by decide) cc3 (va_any rfl (hX.2.1 3 (by decide))) hce hcv hcl ?_
                  refine lv_astore (lv' := [(7, .ref q9), (0, .ref (A 0)), (1, .int x1), (2, .int x2), (3, .int x3), (4, .int x4), (5, .int x5), (6, .int x6)]) hx hb dL_does_281 hl (by decide) rfl (fun ls hl => ?_)
                  refine lv_sipush (v := (-1000)) hx hb dL_does_283 (by decide) ?_
                  exact hR _ ls H locs _ _ _ _ (congrArg (fun q => q.1) (Option.some.inj hf)) (congrArg (fun q => (wLW cI cZ A (q.2.1) (q.2.2.1) (q.2.2.2.1) cu (q.2.2.2.2.1) (q.2.2.2.2.2.1) (q.2.2.2.2.2.2) cg)) (Option.some.inj hf)) rfl (by omega) (by omega) dL_does_286 hP hD hS
                have hf := if_f e3 hf
                cases hf
          · have hf := if_t c65 hf
            refine lv_aload_n hx hb dL_does_68 rfl (lv_at hl 0 rfl) ?_
            refine lv_iload_n hx hb dL_does_69 rfl (lv_at hl 2 rfl) ?_
            refine lv_iload_n hx hb dL_does_70 rfl (lv_at hl 3 rfl) ?_
            rcases hx_t hf with ⟨q71, h71, hf⟩ | ⟨kx, h71, hf⟩
            · refine cl_i (va_runV (As := [.int x2, .int x3]) (rest := []) S (mX5_shut l D cI cZ (aLW_X5_0_1_2_3_4_5_6 A) cs cw ct cu cl cb cp x2 x3 H.size q71 h71) (cwV 2 hts gL_does_X5_shut rfl rfl rfl (by decide +kernel) ⟨Nat.le_of_ble_eq_true rfl, Nat.le_of_ble_eq_true rfl⟩) (mP_V (ci := 5) (cutLW_X5_0_1_2_3_4_5_6 _ _ _ _ _ _ _ _ _ _ _ st0 st0 st0 st0 st0 st0 st0) hP hD hK hG rfl (gX5_0 _ _ _ _ _ _ _ _ _ _)) rfl rfl hl.1 rfl (lv_room (Nat.le_of_ble_eq_true rfl)) dL_does_71 ⟨by show _ ≤ 1; omega, by show _ ≤ 6; omega⟩) (cutLW_X5_0_1_2_3_4_5_6 _ _ _ _ _ _ _ _ _ _ _ _ _ _ _ _ _ _) hP hD hS hA (fun H locs hP hD hS => ?_)
              refine lv_if_eq (tgt := 81) hx hb dL_does_74 (by decide) (fun c74 => ?_) (fun c74 => ?_)
              · have hf := if_t c74 hf
                refine lv_iconst (v := 0) hx hb dL_does_81 (by decide) ?_
                refine lv_goto (tgt := 268) hx hb dL_does_82 (by decide) ?_
                exact hR _ ls H locs _ _ _ _ (congrArg (fun q => q.1) (Option.some.inj hf)) (congrArg (fun q => (wLW cI cZ A (q.2.1) (q.2.2.1) (q.2.2.2.1) cu (q.2.2.2.2.1) (q.2.2.2.2.2.1) (q.2.2.2.2.2.2) cg)) (Option.some.inj hf)) rfl (by omega) (by omega) dL_does_268 hP hD hS
              · have hf := if_f c74 hf
                refine lv_iconst (v := 1) hx hb dL_does_77 (by decide) ?_
                refine lv_goto (tgt := 268) hx hb dL_does_78 (by decide) ?_
                exact hR _ ls H locs _ _ _ _ (congrArg (fun q => q.1) (Option.some.inj hf)) (congrArg (fun q => (wLW cI cZ A (q.2.1) (q.2.2.1) (q.2.2.2.1) cu (q.2.2.2.2.1) (q.2.2.2.2.2.1) (q.2.2.2.2.2.2) cg)) (Option.some.inj hf)) rfl (by omega) (by omega) dL_does_268 hP hD hS
            · refine clx_i (k := kx) (vx_runV (As := [.int x2, .int x3]) (rest := []) S (xX5_shut l hfl D cI cZ (aLW_X5_0_1_2_3_4_5_6 A) cs cw ct cu cl cb cp x2 x3 H.size kx h71) (cwV 2 hts gL_does_X5_shut rfl rfl rfl (by decide +kernel) ⟨Nat.le_of_ble_eq_true rfl, Nat.le_of_ble_eq_true rfl⟩) (xP_V (ci := 5) (cutLW_X5_0_1_2_3_4_5_6 _ _ _ _ _ _ _ _ _ _ _ st0 st0 st0 st0 st0 st0 st0) hP hD hS hA hK hG hX hZ rfl (gX5_0 _ _ _ _ _ _ _ _ _ _)) rfl rfl hl.1 rfl (lv_room (Nat.le_of_ble_eq_true rfl)) dL_does_71 ⟨Nat.le_of_ble_eq_true rfl, Nat.le_of_ble_eq_true rfl⟩) (cutLW_X5_0_1_2_3_4_5_6 _ _ _ _ _ _ _ _ _ _ _ _ _ _ _ _ _ _) rfl hP hD hS hA (fun E ce q9 H locs hE hce hcv hcl hP hD hS => ?_)
              subst hE
              by_cases e1 : kx = 1
              · have hf := if_t e1 hf
                subst e1
                refine vx_catch (own := RL) (name := xn 1) hown [] (⟨0, 268, 269, 72⟩ : ExceptionTableEntry) [(⟨0, 268, 275, 74⟩ : ExceptionTableEntry), (⟨0, 268, 281, 76⟩ : ExceptionTableEntry)] (by rw [hex]; rfl) (fun z hz => absurd hz List.not_mem_nil) (by decide) (by decide) cc1 (va_any rfl (hX.2.1 1 (by decide))) hce hcv hcl ?_
                refine lv_astore (lv' := [(7, .ref q9), (0, .ref (A 0)), (1, .int x1), (2, .int x2), (3, .int x3), (4, .int x4), (5, .int x5), (6, .int x6)]) hx hb dL_does_269 hl (by decide) rfl (fun ls hl => ?_)
                refine lv_sipush (v := (-3000)) hx hb dL_does_271 (by decide) ?_
                exact hR _ ls H locs _ _ _ _ (congrArg (fun q => q.1) (Option.some.inj hf)) (congrArg (fun q => (wLW cI cZ A (q.2.1) (q.2.2.1) (q.2.2.2.1) cu (q.2.2.2.2.1) (q.2.2.2.2.2.1) (q.2.2.2.2.2.2) cg)) (Option.some.inj hf)) rfl (by omega) (by omega) dL_does_274 hP hD hS
              have hf := if_f e1 hf
              by_cases e2 : kx = 2
              · have hf := if_t e2 hf
                subst e2
                refine vx_catch (own := RL) (name := xn 2) hown [(⟨0, 268, 269, 72⟩ : ExceptionTableEntry)] (⟨0, 268, 275, 74⟩ : ExceptionTableEntry) [(⟨0, 268, 281, 76⟩ : ExceptionTableEntry)] (by rw [hex]; rfl) (List.forall_mem_cons.mpr ⟨Or.inr ⟨by decide, xn 1, cc1, hX.2.2.1 (2, 1) (by decide)⟩, (fun z hz => absurd hz List.not_mem_nil)⟩) (by decide) (by decide) cc2 (va_any rfl (hX.2.1 2 (by decide))) hce hcv hcl ?_
                refine lv_astore (lv' := [(7, .ref q9), (0, .ref (A 0)), (1, .int x1), (2, .int x2), (3, .int x3), (4, .int x4), (5, .int x5), (6, .int x6)]) hx hb dL_does_275 hl (by decide) rfl (fun ls hl => ?_)
                refine lv_sipush (v := (-2000)) hx hb dL_does_277 (by decide) ?_
                exact hR _ ls H locs _ _ _ _ (congrArg (fun q => q.1) (Option.some.inj hf)) (congrArg (fun q => (wLW cI cZ A (q.2.1) (q.2.2.1) (q.2.2.2.1) cu (q.2.2.2.2.1) (q.2.2.2.2.2.1) (q.2.2.2.2.2.2) cg)) (Option.some.inj hf)) rfl (by omega) (by omega) dL_does_280 hP hD hS
              have hf := if_f e2 hf
              by_cases e3 : kx = 3
              · have hf := if_t e3 hf
                subst e3
                refine vx_catch (own := RL) (name := xn 3) hown [(⟨0, 268, 269, 72⟩ : ExceptionTableEntry), (⟨0, 268, 275, 74⟩ : ExceptionTableEntry)] (⟨0, 268, 281, 76⟩ : ExceptionTableEntry) [] (by rw [hex]; rfl) (List.forall_mem_cons.mpr ⟨Or.inr ⟨by decide, xn 1, cc1, hX.2.2.1 (3, 1) (by decide)⟩, (List.forall_mem_cons.mpr ⟨Or.inr ⟨by decide, xn 2, cc2, hX.2.2.1 (3, 2) (by decide)⟩, (fun z hz => absurd hz List.not_mem_nil)⟩)⟩) (by decide) (by decide) cc3 (va_any rfl (hX.2.1 3 (by decide))) hce hcv hcl ?_
                refine lv_astore (lv' := [(7, .ref q9), (0, .ref (A 0)), (1, .int x1), (2, .int x2), (3, .int x3), (4, .int x4), (5, .int x5), (6, .int x6)]) hx hb dL_does_281 hl (by decide) rfl (fun ls hl => ?_)
                refine lv_sipush (v := (-1000)) hx hb dL_does_283 (by decide) ?_
                exact hR _ ls H locs _ _ _ _ (congrArg (fun q => q.1) (Option.some.inj hf)) (congrArg (fun q => (wLW cI cZ A (q.2.1) (q.2.2.1) (q.2.2.2.1) cu (q.2.2.2.2.1) (q.2.2.2.2.2.1) (q.2.2.2.2.2.2) cg)) (Option.some.inj hf)) rfl (by omega) (by omega) dL_does_286 hP hD hS
              have hf := if_f e3 hf
              cases hf
        · have hf := if_t c51 hf
          refine lv_aload_n hx hb dL_does_54 rfl (lv_at hl 0 rfl) ?_
          refine lv_iload_n hx hb dL_does_55 rfl (lv_at hl 2 rfl) ?_
          refine lv_iload_n hx hb dL_does_56 rfl (lv_at hl 3 rfl) ?_
          rcases hx_t hf with ⟨q57, h57, hf⟩ | ⟨kx, h57, hf⟩
          · refine cl_i (va_runV (As := [.int x2, .int x3]) (rest := []) S (mX5_rank l D cI cZ (aLW_X5_0_1_2_3_4_5_6 A) cs cw ct cu cl cb cp x2 x3 H.size q57 h57) (cwV 2 hts gL_does_X5_rank rfl rfl rfl (by decide +kernel) ⟨Nat.le_of_ble_eq_true rfl, Nat.le_of_ble_eq_true rfl⟩) (mP_V (ci := 5) (cutLW_X5_0_1_2_3_4_5_6 _ _ _ _ _ _ _ _ _ _ _ st0 st0 st0 st0 st0 st0 st0) hP hD hK hG rfl (gX5_0 _ _ _ _ _ _ _ _ _ _)) rfl rfl hl.1 rfl (lv_room (Nat.le_of_ble_eq_true rfl)) dL_does_57 ⟨by show _ ≤ 1; omega, by show _ ≤ 6; omega⟩) (cutLW_X5_0_1_2_3_4_5_6 _ _ _ _ _ _ _ _ _ _ _ _ _ _ _ _ _ _) hP hD hS hA (fun H locs hP hD hS => ?_)
            refine lv_goto (tgt := 268) hx hb dL_does_60 (by decide) ?_
            exact hR _ ls H locs _ _ _ _ (congrArg (fun q => q.1) (Option.some.inj hf)) (congrArg (fun q => (wLW cI cZ A (q.2.1) (q.2.2.1) (q.2.2.2.1) cu (q.2.2.2.2.1) (q.2.2.2.2.2.1) (q.2.2.2.2.2.2) cg)) (Option.some.inj hf)) rfl (by omega) (by omega) dL_does_268 hP hD hS
          · refine clx_i (k := kx) (vx_runV (As := [.int x2, .int x3]) (rest := []) S (xX5_rank l hfl D cI cZ (aLW_X5_0_1_2_3_4_5_6 A) cs cw ct cu cl cb cp x2 x3 H.size kx h57) (cwV 2 hts gL_does_X5_rank rfl rfl rfl (by decide +kernel) ⟨Nat.le_of_ble_eq_true rfl, Nat.le_of_ble_eq_true rfl⟩) (xP_V (ci := 5) (cutLW_X5_0_1_2_3_4_5_6 _ _ _ _ _ _ _ _ _ _ _ st0 st0 st0 st0 st0 st0 st0) hP hD hS hA hK hG hX hZ rfl (gX5_0 _ _ _ _ _ _ _ _ _ _)) rfl rfl hl.1 rfl (lv_room (Nat.le_of_ble_eq_true rfl)) dL_does_57 ⟨Nat.le_of_ble_eq_true rfl, Nat.le_of_ble_eq_true rfl⟩) (cutLW_X5_0_1_2_3_4_5_6 _ _ _ _ _ _ _ _ _ _ _ _ _ _ _ _ _ _) rfl hP hD hS hA (fun E ce q9 H locs hE hce hcv hcl hP hD hS => ?_)
            subst hE
            by_cases e1 : kx = 1
            · have hf := if_t e1 hf
              subst e1
              refine vx_catch (own := RL) (name := xn 1) hown [] (⟨0, 268, 269, 72⟩ : ExceptionTableEntry) [(⟨0, 268, 275, 74⟩ : ExceptionTableEntry), (⟨0, 268, 281, 76⟩ : ExceptionTableEntry)] (by rw [hex]; rfl) (fun z hz => absurd hz List.not_mem_nil) (by decide) (by decide) cc1 (va_any rfl (hX.2.1 1 (by decide))) hce hcv hcl ?_
              refine lv_astore (lv' := [(7, .ref q9), (0, .ref (A 0)), (1, .int x1), (2, .int x2), (3, .int x3), (4, .int x4), (5, .int x5), (6, .int x6)]) hx hb dL_does_269 hl (by decide) rfl (fun ls hl => ?_)
              refine lv_sipush (v := (-3000)) hx hb dL_does_271 (by decide) ?_
              exact hR _ ls H locs _ _ _ _ (congrArg (fun q => q.1) (Option.some.inj hf)) (congrArg (fun q => (wLW cI cZ A (q.2.1) (q.2.2.1) (q.2.2.2.1) cu (q.2.2.2.2.1) (q.2.2.2.2.2.1) (q.2.2.2.2.2.2) cg)) (Option.some.inj hf)) rfl (by omega) (by omega) dL_does_274 hP hD hS
            have hf := if_f e1 hf
            by_cases e2 : kx = 2
            · have hf := if_t e2 hf
              subst e2
              refine vx_catch (own := RL) (name := xn 2) hown [(⟨0, 268, 269, 72⟩ : ExceptionTableEntry)] (⟨0, 268, 275, 74⟩ : ExceptionTableEntry) [(⟨0, 268, 281, 76⟩ : ExceptionTableEntry)] (by rw [hex]; rfl) (List.forall_mem_cons.mpr ⟨Or.inr ⟨by decide, xn 1, cc1, hX.2.2.1 (2, 1) (by decide)⟩, (fun z hz => absurd hz List.not_mem_nil)⟩) (by decide) (by decide) cc2 (va_any rfl (hX.2.1 2 (by decide))) hce hcv hcl ?_
              refine lv_astore (lv' := [(7, .ref q9), (0, .ref (A 0)), (1, .int x1), (2, .int x2), (3, .int x3), (4, .int x4), (5, .int x5), (6, .int x6)]) hx hb dL_does_275 hl (by decide) rfl (fun ls hl => ?_)
              refine lv_sipush (v := (-2000)) hx hb dL_does_277 (by decide) ?_
              exact hR _ ls H locs _ _ _ _ (congrArg (fun q => q.1) (Option.some.inj hf)) (congrArg (fun q => (wLW cI cZ A (q.2.1) (q.2.2.1) (q.2.2.2.1) cu (q.2.2.2.2.1) (q.2.2.2.2.2.1) (q.2.2.2.2.2.2) cg)) (Option.some.inj hf)) rfl (by omega) (by omega) dL_does_280 hP hD hS
            have hf := if_f e2 hf
            by_cases e3 : kx = 3
            · have hf := if_t e3 hf
              subst e3
              refine vx_catch (own := RL) (name := xn 3) hown [(⟨0, 268, 269, 72⟩ : ExceptionTableEntry), (⟨0, 268, 275, 74⟩ : ExceptionTableEntry)] (⟨0, 268, 281, 76⟩ : ExceptionTableEntry) [] (by rw [hex]; rfl) (List.forall_mem_cons.mpr ⟨Or.inr ⟨by decide, xn 1, cc1, hX.2.2.1 (3, 1) (by decide)⟩, (List.forall_mem_cons.mpr ⟨Or.inr ⟨by decide, xn 2, cc2, hX.2.2.1 (3, 2) (by decide)⟩, (fun z hz => absurd hz List.not_mem_nil)⟩)⟩) (by decide) (by decide) cc3 (va_any rfl (hX.2.1 3 (by decide))) hce hcv hcl ?_
              refine lv_astore (lv' := [(7, .ref q9), (0, .ref (A 0)), (1, .int x1), (2, .int x2), (3, .int x3), (4, .int x4), (5, .int x5), (6, .int x6)]) hx hb dL_does_281 hl (by decide) rfl (fun ls hl => ?_)
              refine lv_sipush (v := (-1000)) hx hb dL_does_283 (by decide) ?_
              exact hR _ ls H locs _ _ _ _ (congrArg (fun q => q.1) (Option.some.inj hf)) (congrArg (fun q => (wLW cI cZ A (q.2.1) (q.2.2.1) (q.2.2.2.1) cu (q.2.2.2.2.1) (q.2.2.2.2.2.1) (q.2.2.2.2.2.2) cg)) (Option.some.inj hf)) rfl (by omega) (by omega) dL_does_286 hP hD hS
            have hf := if_f e3 hf
            cases hf
      · have hf := if_t c35 hf
        refine lv_aload_n hx hb dL_does_38 rfl (lv_at hl 0 rfl) ?_
        refine lv_iload_n hx hb dL_does_39 rfl (lv_at hl 2 rfl) ?_
        refine lv_iload_n hx hb dL_does_40 rfl (lv_at hl 3 rfl) ?_
        refine lv_iload hx hb dL_does_41 (lv_at hl 4 rfl) ?_
        rcases hx_t hf with ⟨q43, h43, hf⟩ | ⟨kx, h43, hf⟩
        · refine cl_i (va_runV (As := [.int x2, .int x3, .int x4]) (rest := []) S (mX5_house l D cI cZ (aLW_X5_0_1_2_3_4_5_6 A) cs cw ct cu cl cb cp x2 x3 x4 H.size q43 h43) (cwV 3 hts gL_does_X5_house rfl rfl rfl (by decide +kernel) ⟨Nat.le_of_ble_eq_true rfl, Nat.le_of_ble_eq_true rfl⟩) (mP_V (ci := 5) (cutLW_X5_0_1_2_3_4_5_6 _ _ _ _ _ _ _ _ _ _ _ st0 st0 st0 st0 st0 st0 st0) hP hD hK hG rfl (gX5_0 _ _ _ _ _ _ _ _ _ _)) rfl rfl hl.1 rfl (lv_room (Nat.le_of_ble_eq_true rfl)) dL_does_43 ⟨by show _ ≤ 1; omega, by show _ ≤ 6; omega⟩) (cutLW_X5_0_1_2_3_4_5_6 _ _ _ _ _ _ _ _ _ _ _ _ _ _ _ _ _ _) hP hD hS hA (fun H locs hP hD hS => ?_)
          refine lv_goto (tgt := 268) hx hb dL_does_46 (by decide) ?_
          exact hR _ ls H locs _ _ _ _ (congrArg (fun q => q.1) (Option.some.inj hf)) (congrArg (fun q => (wLW cI cZ A (q.2.1) (q.2.2.1) (q.2.2.2.1) cu (q.2.2.2.2.1) (q.2.2.2.2.2.1) (q.2.2.2.2.2.2) cg)) (Option.some.inj hf)) rfl (by omega) (by omega) dL_does_268 hP hD hS
        · refine clx_i (k := kx) (vx_runV (As := [.int x2, .int x3, .int x4]) (rest := []) S (xX5_house l hfl D cI cZ (aLW_X5_0_1_2_3_4_5_6 A) cs cw ct cu cl cb cp x2 x3 x4 H.size kx h43) (cwV 3 hts gL_does_X5_house rfl rfl rfl (by decide +kernel) ⟨Nat.le_of_ble_eq_true rfl, Nat.le_of_ble_eq_true rfl⟩) (xP_V (ci := 5) (cutLW_X5_0_1_2_3_4_5_6 _ _ _ _ _ _ _ _ _ _ _ st0 st0 st0 st0 st0 st0 st0) hP hD hS hA hK hG hX hZ rfl (gX5_0 _ _ _ _ _ _ _ _ _ _)) rfl rfl hl.1 rfl (lv_room (Nat.le_of_ble_eq_true rfl)) dL_does_43 ⟨Nat.le_of_ble_eq_true rfl, Nat.le_of_ble_eq_true rfl⟩) (cutLW_X5_0_1_2_3_4_5_6 _ _ _ _ _ _ _ _ _ _ _ _ _ _ _ _ _ _) rfl hP hD hS hA (fun E ce q9 H locs hE hce hcv hcl hP hD hS => ?_)
          subst hE
          by_cases e1 : kx = 1
          · have hf := if_t e1 hf
            subst e1
            refine vx_catch (own := RL) (name := xn 1) hown [] (⟨0, 268, 269, 72⟩ : ExceptionTableEntry) [(⟨0, 268, 275, 74⟩ : ExceptionTableEntry), (⟨0, 268, 281, 76⟩ : ExceptionTableEntry)] (by rw [hex]; rfl) (fun z hz => absurd hz List.not_mem_nil) (by decide) (by decide) cc1 (va_any rfl (hX.2.1 1 (by decide))) hce hcv hcl ?_
            refine lv_astore (lv' := [(7, .ref q9), (0, .ref (A 0)), (1, .int x1), (2, .int x2), (3, .int x3), (4, .int x4), (5, .int x5), (6, .int x6)]) hx hb dL_does_269 hl (by decide) rfl (fun ls hl => ?_)
            refine lv_sipush (v := (-3000)) hx hb dL_does_271 (by decide) ?_
            exact hR _ ls H locs _ _ _ _ (congrArg (fun q => q.1) (Option.some.inj hf)) (congrArg (fun q => (wLW cI cZ A (q.2.1) (q.2.2.1) (q.2.2.2.1) cu (q.2.2.2.2.1) (q.2.2.2.2.2.1) (q.2.2.2.2.2.2) cg)) (Option.some.inj hf)) rfl (by omega) (by omega) dL_does_274 hP hD hS
          have hf := if_f e1 hf
          by_cases e2 : kx = 2
          · have hf := if_t e2 hf
            subst e2
            refine vx_catch (own := RL) (name := xn 2) hown [(⟨0, 268, 269, 72⟩ : ExceptionTableEntry)] (⟨0, 268, 275, 74⟩ : ExceptionTableEntry) [(⟨0, 268, 281, 76⟩ : ExceptionTableEntry)] (by rw [hex]; rfl) (List.forall_mem_cons.mpr ⟨Or.inr ⟨by decide, xn 1, cc1, hX.2.2.1 (2, 1) (by decide)⟩, (fun z hz => absurd hz List.not_mem_nil)⟩) (by decide) (by decide) cc2 (va_any rfl (hX.2.1 2 (by decide))) hce hcv hcl ?_
            refine lv_astore (lv' := [(7, .ref q9), (0, .ref (A 0)), (1, .int x1), (2, .int x2), (3, .int x3), (4, .int x4), (5, .int x5), (6, .int x6)]) hx hb dL_does_275 hl (by decide) rfl (fun ls hl => ?_)
            refine lv_sipush (v := (-2000)) hx hb dL_does_277 (by decide) ?_
            exact hR _ ls H locs _ _ _ _ (congrArg (fun q => q.1) (Option.some.inj hf)) (congrArg (fun q => (wLW cI cZ A (q.2.1) (q.2.2.1) (q.2.2.2.1) cu (q.2.2.2.2.1) (q.2.2.2.2.2.1) (q.2.2.2.2.2.2) cg)) (Option.some.inj hf)) rfl (by omega) (by omega) dL_does_280 hP hD hS
          have hf := if_f e2 hf
          by_cases e3 : kx = 3
          · have hf := if_t e3 hf
            subst e3
            refine vx_catch (own := RL) (name := xn 3) hown [(⟨0, 268, 269, 72⟩ : ExceptionTableEntry), (⟨0, 268, 275, 74⟩ : ExceptionTableEntry)] (⟨0, 268, 281, 76⟩ : ExceptionTableEntry) [] (by rw [hex]; rfl) (List.forall_mem_cons.mpr ⟨Or.inr ⟨by decide, xn 1, cc1, hX.2.2.1 (3, 1) (by decide)⟩, (List.forall_mem_cons.mpr ⟨Or.inr ⟨by decide, xn 2, cc2, hX.2.2.1 (3, 2) (by decide)⟩, (fun z hz => absurd hz List.not_mem_nil)⟩)⟩) (by decide) (by decide) cc3 (va_any rfl (hX.2.1 3 (by decide))) hce hcv hcl ?_
            refine lv_astore (lv' := [(7, .ref q9), (0, .ref (A 0)), (1, .int x1), (2, .int x2), (3, .int x3), (4, .int x4), (5, .int x5), (6, .int x6)]) hx hb dL_does_281 hl (by decide) rfl (fun ls hl => ?_)
            refine lv_sipush (v := (-1000)) hx hb dL_does_283 (by decide) ?_
            exact hR _ ls H locs _ _ _ _ (congrArg (fun q => q.1) (Option.some.inj hf)) (congrArg (fun q => (wLW cI cZ A (q.2.1) (q.2.2.1) (q.2.2.2.1) cu (q.2.2.2.2.1) (q.2.2.2.2.2.1) (q.2.2.2.2.2.2) cg)) (Option.some.inj hf)) rfl (by omega) (by omega) dL_does_286 hP hD hS
          have hf := if_f e3 hf
          cases hf
    · have hf := if_t c21 hf
      refine lv_aload_n hx hb dL_does_24 rfl (lv_at hl 0 rfl) ?_
      refine lv_iload_n hx hb dL_does_25 rfl (lv_at hl 2 rfl) ?_
      refine lv_iload_n hx hb dL_does_26 rfl (lv_at hl 3 rfl) ?_
      rcases hx_t hf with ⟨q27, h27, hf⟩ | ⟨kx, h27, hf⟩
      · refine cl_i (va_runV (As := [.int x2, .int x3]) (rest := []) S (mX5_free l D cI cZ (aLW_X5_0_1_2_3_4_5_6 A) cs cw ct cu cl cb cp x2 x3 H.size q27 h27) (cwV 2 hts gL_does_X5_free rfl rfl rfl (by decide +kernel) ⟨Nat.le_of_ble_eq_true rfl, Nat.le_of_ble_eq_true rfl⟩) (mP_V (ci := 5) (cutLW_X5_0_1_2_3_4_5_6 _ _ _ _ _ _ _ _ _ _ _ st0 st0 st0 st0 st0 st0 st0) hP hD hK hG rfl (gX5_0 _ _ _ _ _ _ _ _ _ _)) rfl rfl hl.1 rfl (lv_room (Nat.le_of_ble_eq_true rfl)) dL_does_27 ⟨by show _ ≤ 1; omega, by show _ ≤ 6; omega⟩) (cutLW_X5_0_1_2_3_4_5_6 _ _ _ _ _ _ _ _ _ _ _ _ _ _ _ _ _ _) hP hD hS hA (fun H locs hP hD hS => ?_)
        refine lv_goto (tgt := 268) hx hb dL_does_30 (by decide) ?_
        exact hR _ ls H locs _ _ _ _ (congrArg (fun q => q.1) (Option.some.inj hf)) (congrArg (fun q => (wLW cI cZ A (q.2.1) (q.2.2.1) (q.2.2.2.1) cu (q.2.2.2.2.1) (q.2.2.2.2.2.1) (q.2.2.2.2.2.2) cg)) (Option.some.inj hf)) rfl (by omega) (by omega) dL_does_268 hP hD hS
      · refine clx_i (k := kx) (vx_runV (As := [.int x2, .int x3]) (rest := []) S (xX5_free l hfl D cI cZ (aLW_X5_0_1_2_3_4_5_6 A) cs cw ct cu cl cb cp x2 x3 H.size kx h27) (cwV 2 hts gL_does_X5_free rfl rfl rfl (by decide +kernel) ⟨Nat.le_of_ble_eq_true rfl, Nat.le_of_ble_eq_true rfl⟩) (xP_V (ci := 5) (cutLW_X5_0_1_2_3_4_5_6 _ _ _ _ _ _ _ _ _ _ _ st0 st0 st0 st0 st0 st0 st0) hP hD hS hA hK hG hX hZ rfl (gX5_0 _ _ _ _ _ _ _ _ _ _)) rfl rfl hl.1 rfl (lv_room (Nat.le_of_ble_eq_true rfl)) dL_does_27 ⟨Nat.le_of_ble_eq_true rfl, Nat.le_of_ble_eq_true rfl⟩) (cutLW_X5_0_1_2_3_4_5_6 _ _ _ _ _ _ _ _ _ _ _ _ _ _ _ _ _ _) rfl hP hD hS hA (fun E ce q9 H locs hE hce hcv hcl hP hD hS => ?_)
        subst hE
        by_cases e1 : kx = 1
        · have hf := if_t e1 hf
          subst e1
          refine vx_catch (own := RL) (name := xn 1) hown [] (⟨0, 268, 269, 72⟩ : ExceptionTableEntry) [(⟨0, 268, 275, 74⟩ : ExceptionTableEntry), (⟨0, 268, 281, 76⟩ : ExceptionTableEntry)] (by rw [hex]; rfl) (fun z hz => absurd hz List.not_mem_nil) (by decide) (by decide) cc1 (va_any rfl (hX.2.1 1 (by decide))) hce hcv hcl ?_
          refine lv_astore (lv' := [(7, .ref q9), (0, .ref (A 0)), (1, .int x1), (2, .int x2), (3, .int x3), (4, .int x4), (5, .int x5), (6, .int x6)]) hx hb dL_does_269 hl (by decide) rfl (fun ls hl => ?_)
          refine lv_sipush (v := (-3000)) hx hb dL_does_271 (by decide) ?_
          exact hR _ ls H locs _ _ _ _ (congrArg (fun q => q.1) (Option.some.inj hf)) (congrArg (fun q => (wLW cI cZ A (q.2.1) (q.2.2.1) (q.2.2.2.1) cu (q.2.2.2.2.1) (q.2.2.2.2.2.1) (q.2.2.2.2.2.2) cg)) (Option.some.inj hf)) rfl (by omega) (by omega) dL_does_274 hP hD hS
        have hf := if_f e1 hf
        by_cases e2 : kx = 2
        · have hf := if_t e2 hf
          subst e2
          refine vx_catch (own := RL) (name := xn 2) hown [(⟨0, 268, 269, 72⟩ : ExceptionTableEntry)] (⟨0, 268, 275, 74⟩ : ExceptionTableEntry) [(⟨0, 268, 281, 76⟩ : ExceptionTableEntry)] (by rw [hex]; rfl) (List.forall_mem_cons.mpr ⟨Or.inr ⟨by decide, xn 1, cc1, hX.2.2.1 (2, 1) (by decide)⟩, (fun z hz => absurd hz List.not_mem_nil)⟩) (by decide) (by decide) cc2 (va_any rfl (hX.2.1 2 (by decide))) hce hcv hcl ?_
          refine lv_astore (lv' := [(7, .ref q9), (0, .ref (A 0)), (1, .int x1), (2, .int x2), (3, .int x3), (4, .int x4), (5, .int x5), (6, .int x6)]) hx hb dL_does_275 hl (by decide) rfl (fun ls hl => ?_)
          refine lv_sipush (v := (-2000)) hx hb dL_does_277 (by decide) ?_
          exact hR _ ls H locs _ _ _ _ (congrArg (fun q => q.1) (Option.some.inj hf)) (congrArg (fun q => (wLW cI cZ A (q.2.1) (q.2.2.1) (q.2.2.2.1) cu (q.2.2.2.2.1) (q.2.2.2.2.2.1) (q.2.2.2.2.2.2) cg)) (Option.some.inj hf)) rfl (by omega) (by omega) dL_does_280 hP hD hS
        have hf := if_f e2 hf
        by_cases e3 : kx = 3
        · have hf := if_t e3 hf
          subst e3
          refine vx_catch (own := RL) (name := xn 3) hown [(⟨0, 268, 269, 72⟩ : ExceptionTableEntry), (⟨0, 268, 275, 74⟩ : ExceptionTableEntry)] (⟨0, 268, 281, 76⟩ : ExceptionTableEntry) [] (by rw [hex]; rfl) (List.forall_mem_cons.mpr ⟨Or.inr ⟨by decide, xn 1, cc1, hX.2.2.1 (3, 1) (by decide)⟩, (List.forall_mem_cons.mpr ⟨Or.inr ⟨by decide, xn 2, cc2, hX.2.2.1 (3, 2) (by decide)⟩, (fun z hz => absurd hz List.not_mem_nil)⟩)⟩) (by decide) (by decide) cc3 (va_any rfl (hX.2.1 3 (by decide))) hce hcv hcl ?_
          refine lv_astore (lv' := [(7, .ref q9), (0, .ref (A 0)), (1, .int x1), (2, .int x2), (3, .int x3), (4, .int x4), (5, .int x5), (6, .int x6)]) hx hb dL_does_281 hl (by decide) rfl (fun ls hl => ?_)
          refine lv_sipush (v := (-1000)) hx hb dL_does_283 (by decide) ?_
          exact hR _ ls H locs _ _ _ _ (congrArg (fun q => q.1) (Option.some.inj hf)) (congrArg (fun q => (wLW cI cZ A (q.2.1) (q.2.2.1) (q.2.2.2.1) cu (q.2.2.2.2.1) (q.2.2.2.2.2.1) (q.2.2.2.2.2.2) cg)) (Option.some.inj hf)) rfl (by omega) (by omega) dL_does_286 hP hD hS
        have hf := if_f e3 hf
        cases hf
  · have hf := if_t c1 hf
    refine lv_aload_n hx hb dL_does_4 rfl (lv_at hl 0 rfl) ?_
    refine lv_iload_n hx hb dL_does_5 rfl (lv_at hl 2 rfl) ?_
    refine lv_iload_n hx hb dL_does_6 rfl (lv_at hl 3 rfl) ?_
    refine lv_iload hx hb dL_does_7 (lv_at hl 4 rfl) ?_
    refine lv_iload hx hb dL_does_9 (lv_at hl 5 rfl) ?_
    refine lv_iload hx hb dL_does_11 (lv_at hl 6 rfl) ?_
    rcases hx_t hf with ⟨q13, h13, hf⟩ | ⟨kx, h13, hf⟩
    · refine cl_i (va_runV (As := [.int x2, .int x3, .int x4, .int x5, .int x6]) (rest := []) S (mX5_wire l D cI cZ (aLW_X5_0_1_2_3_4_5_6 A) cs cw ct cu cl cb cp x2 x3 x4 x5 x6 H.size q13 h13) (cwV 5 hts gL_does_X5_wire rfl rfl rfl (by decide +kernel) ⟨Nat.le_of_ble_eq_true rfl, Nat.le_of_ble_eq_true rfl⟩) (mP_V (ci := 5) (cutLW_X5_0_1_2_3_4_5_6 _ _ _ _ _ _ _ _ _ _ _ st0 st0 st0 st0 st0 st0 st0) hP hD hK hG rfl (gX5_0 _ _ _ _ _ _ _ _ _ _)) rfl rfl hl.1 rfl (lv_room (Nat.le_of_ble_eq_true rfl)) dL_does_13 ⟨by show _ ≤ 1; omega, by show _ ≤ 6; omega⟩) (cutLW_X5_0_1_2_3_4_5_6 _ _ _ _ _ _ _ _ _ _ _ _ _ _ _ _ _ _) hP hD hS hA (fun H locs hP hD hS => ?_)
      refine lv_goto (tgt := 268) hx hb dL_does_16 (by decide) ?_
      exact hR _ ls H locs _ _ _ _ (congrArg (fun q => q.1) (Option.some.inj hf)) (congrArg (fun q => (wLW cI cZ A (q.2.1) (q.2.2.1) (q.2.2.2.1) cu (q.2.2.2.2.1) (q.2.2.2.2.2.1) (q.2.2.2.2.2.2) cg)) (Option.some.inj hf)) rfl (by omega) (by omega) dL_does_268 hP hD hS
    · refine clx_i (k := kx) (vx_runV (As := [.int x2, .int x3, .int x4, .int x5, .int x6]) (rest := []) S (xX5_wire l hfl D cI cZ (aLW_X5_0_1_2_3_4_5_6 A) cs cw ct cu cl cb cp x2 x3 x4 x5 x6 H.size kx h13) (cwV 5 hts gL_does_X5_wire rfl rfl rfl (by decide +kernel) ⟨Nat.le_of_ble_eq_true rfl, Nat.le_of_ble_eq_true rfl⟩) (xP_V (ci := 5) (cutLW_X5_0_1_2_3_4_5_6 _ _ _ _ _ _ _ _ _ _ _ st0 st0 st0 st0 st0 st0 st0) hP hD hS hA hK hG hX hZ rfl (gX5_0 _ _ _ _ _ _ _ _ _ _)) rfl rfl hl.1 rfl (lv_room (Nat.le_of_ble_eq_true rfl)) dL_does_13 ⟨Nat.le_of_ble_eq_true rfl, Nat.le_of_ble_eq_true rfl⟩) (cutLW_X5_0_1_2_3_4_5_6 _ _ _ _ _ _ _ _ _ _ _ _ _ _ _ _ _ _) rfl hP hD hS hA (fun E ce q9 H locs hE hce hcv hcl hP hD hS => ?_)
      subst hE
      by_cases e1 : kx = 1
      · have hf := if_t e1 hf
        subst e1
        refine vx_catch (own := RL) (name := xn 1) hown [] (⟨0, 268, 269, 72⟩ : ExceptionTableEntry) [(⟨0, 268, 275, 74⟩ : ExceptionTableEntry), (⟨0, 268, 281, 76⟩ : ExceptionTableEntry)] (by rw [hex]; rfl) (fun z hz => absurd hz List.not_mem_nil) (by decide) (by decide) cc1 (va_any rfl (hX.2.1 1 (by decide))) hce hcv hcl ?_
        refine lv_astore (lv' := [(7, .ref q9), (0, .ref (A 0)), (1, .int x1), (2, .int x2), (3, .int x3), (4, .int x4), (5, .int x5), (6, .int x6)]) hx hb dL_does_269 hl (by decide) rfl (fun ls hl => ?_)
        refine lv_sipush (v := (-3000)) hx hb dL_does_271 (by decide) ?_
        exact hR _ ls H locs _ _ _ _ (congrArg (fun q => q.1) (Option.some.inj hf)) (congrArg (fun q => (wLW cI cZ A (q.2.1) (q.2.2.1) (q.2.2.2.1) cu (q.2.2.2.2.1) (q.2.2.2.2.2.1) (q.2.2.2.2.2.2) cg)) (Option.some.inj hf)) rfl (by omega) (by omega) dL_does_274 hP hD hS
      have hf := if_f e1 hf
      by_cases e2 : kx = 2
      · have hf := if_t e2 hf
        subst e2
        refine vx_catch (own := RL) (name := xn 2) hown [(⟨0, 268, 269, 72⟩ : ExceptionTableEntry)] (⟨0, 268, 275, 74⟩ : ExceptionTableEntry) [(⟨0, 268, 281, 76⟩ : ExceptionTableEntry)] (by rw [hex]; rfl) (List.forall_mem_cons.mpr ⟨Or.inr ⟨by decide, xn 1, cc1, hX.2.2.1 (2, 1) (by decide)⟩, (fun z hz => absurd hz List.not_mem_nil)⟩) (by decide) (by decide) cc2 (va_any rfl (hX.2.1 2 (by decide))) hce hcv hcl ?_
        refine lv_astore (lv' := [(7, .ref q9), (0, .ref (A 0)), (1, .int x1), (2, .int x2), (3, .int x3), (4, .int x4), (5, .int x5), (6, .int x6)]) hx hb dL_does_275 hl (by decide) rfl (fun ls hl => ?_)
        refine lv_sipush (v := (-2000)) hx hb dL_does_277 (by decide) ?_
        exact hR _ ls H locs _ _ _ _ (congrArg (fun q => q.1) (Option.some.inj hf)) (congrArg (fun q => (wLW cI cZ A (q.2.1) (q.2.2.1) (q.2.2.2.1) cu (q.2.2.2.2.1) (q.2.2.2.2.2.1) (q.2.2.2.2.2.2) cg)) (Option.some.inj hf)) rfl (by omega) (by omega) dL_does_280 hP hD hS
      have hf := if_f e2 hf
      by_cases e3 : kx = 3
      · have hf := if_t e3 hf
        subst e3
        refine vx_catch (own := RL) (name := xn 3) hown [(⟨0, 268, 269, 72⟩ : ExceptionTableEntry), (⟨0, 268, 275, 74⟩ : ExceptionTableEntry)] (⟨0, 268, 281, 76⟩ : ExceptionTableEntry) [] (by rw [hex]; rfl) (List.forall_mem_cons.mpr ⟨Or.inr ⟨by decide, xn 1, cc1, hX.2.2.1 (3, 1) (by decide)⟩, (List.forall_mem_cons.mpr ⟨Or.inr ⟨by decide, xn 2, cc2, hX.2.2.1 (3, 2) (by decide)⟩, (fun z hz => absurd hz List.not_mem_nil)⟩)⟩) (by decide) (by decide) cc3 (va_any rfl (hX.2.1 3 (by decide))) hce hcv hcl ?_
        refine lv_astore (lv' := [(7, .ref q9), (0, .ref (A 0)), (1, .int x1), (2, .int x2), (3, .int x3), (4, .int x4), (5, .int x5), (6, .int x6)]) hx hb dL_does_281 hl (by decide) rfl (fun ls hl => ?_)
        refine lv_sipush (v := (-1000)) hx hb dL_does_283 (by decide) ?_
        exact hR _ ls H locs _ _ _ _ (congrArg (fun q => q.1) (Option.some.inj hf)) (congrArg (fun q => (wLW cI cZ A (q.2.1) (q.2.2.1) (q.2.2.2.1) cu (q.2.2.2.2.1) (q.2.2.2.2.2.1) (q.2.2.2.2.2.2) cg)) (Option.some.inj hf)) rfl (by omega) (by omega) dL_does_286 hP hD hS
      have hf := if_f e3 hf
      cases hf

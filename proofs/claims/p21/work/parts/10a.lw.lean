set_option maxHeartbeats 4000000 in
set_option maxRecDepth 100000 in
theorem mL_part (l : Launch) (D : va_G) (b L : Nat) (xs : Nat → Int32) (x1 x2 : Int32) (sz : Nat) (res : Int32) (hf : fL_part L xs x1 x2 = some res) : Met l yL_part wsL_part ({ frames := 0, cells := 0, slots := 0, locals := 0 }) (pP b L xs [.ref b, .int x1, .int x2] sz) (mQi D res [] [] sz) 0 0 (va_A [] sz) := by
  refine Met.ofW (cc := cL_part) (maxL := 4) (ret := some .int) (by decide +kernel) rfl ?_
  intro p e s m args below meth c s₁ B hml hv
  obtain ⟨rfl, hsz, hXs, hbl⟩ := hv
  have hx := B.exec
  have hb := B.bytes
  have hr := B.returns
  have hts := atoms_spec (ws := wsL_part) B.pre
  have hown : s.vm.findClass RL = some m.cls := findClass_of_methodNamed B.named
  subst hsz
  have hbA : ¬ va_A [] s.heap.size b := by
    intro q
    rcases q with ⟨k, e, h⟩ | h
    · simp at h
    · omega
  have hS : va_S (va_A [] s.heap.size) s.heap s.heap [] := va_S.rf
  have v7 := hts (.constant RL 7 (2147483647)) (by decide +kernel)
  have hl := lv_entry ([.ref b, .int x1, .int x2]) (n := 4) (Nat.le_of_ble_eq_true rfl)
  rw [lg_entry_eq]
  generalize (lg_sl ([.ref b, .int x1, .int x2]) ++ List.replicate (4 - (lg_sl ([.ref b, .int x1, .int x2])).length) Slot.unset).toArray = ls at hl ⊢
  have hl : lv_has ls 4 [(0, .ref b), (1, .int x1), (2, .int x2)] := hl
  have hD : va_D (va_A [] s.heap.size) [] := ⟨fun i j p q h => by simp at h, fun k q h => by simp at h⟩
  have B25 : ∀ v : Int32, fL_part_J25 v x2 = some res → W p l e ({ frames := 0, cells := 0, slots := 0, locals := 0 }) s m (([.ref b, .int x1, .int x2] : List Value).toArray) below meth c s.heap [] 0 0 (MQ below (mQi D res [] [] s.heap.size) (([.ref b, .int x1, .int x2] : List Value).toArray) s 0 0 (va_A [] s.heap.size)) (F0 m 25 ls [.int v]) := by
    intro v hf
    unfold fL_part_J25 at hf
    obtain ⟨c31, hf⟩ := ck_t hf
    refine lv_istore_n (lv' := [(3, .int v), (0, .ref b), (1, .int x1), (2, .int x2)]) hx hb dL_part_25 rfl hl (by decide) rfl (fun ls hl => ?_)
    refine lv_iload_n hx hb dL_part_26 rfl (lv_at hl 0 rfl) ?_
    refine lv_ldc (v := 2147483647) hx hb hown v7 dL_part_27 ?_
    refine lv_iand hx hb dL_part_29 ?_
    refine lv_iload_n hx hb dL_part_30 rfl (lv_at hl 3 rfl) ?_
    refine lv_irem hx hb dL_part_31 (of_decide_eq_true c31) ?_
    exact W.iret hx hb hr (fun t ht hW => ⟨⟨_, (), rfl, (Option.some.inj hf), fun k q h => by simp at h, hD⟩, hS.F ht⟩) hS.2.2 dL_part_32
  unfold fL_part at hf
  refine lv_iload_n hx hb dL_part_0 rfl (lv_at hl 1 rfl) ?_
  refine lv_aload_n hx hb dL_part_1 rfl (lv_at hl 0 rfl) ?_
  refine va_slen hx hb hXs hbl hbA hS dL_part_2 ?_
  refine lv_icmp_ge (tgt := 12) hx hb dL_part_3 (by decide) (fun c3 => ?_) (fun c3 => ?_)
  · have hf := if_t c3 hf
    refine lv_sipush (v := 761) hx hb dL_part_12 (by decide) ?_
    refine lv_iload_n hx hb dL_part_15 rfl (lv_at hl 1 rfl) ?_
    refine lv_imul hx hb dL_part_16 ?_
    refine lv_sipush (v := 619) hx hb dL_part_17 (by decide) ?_
    refine lv_iload_n hx hb dL_part_20 rfl (lv_at hl 1 rfl) ?_
    refine lv_imul hx hb dL_part_21 ?_
    refine lv_iload_n hx hb dL_part_22 rfl (lv_at hl 1 rfl) ?_
    refine lv_imul hx hb dL_part_23 ?_
    refine lv_iadd hx hb dL_part_24 ?_
    exact B25 _ hf
  · have hf := if_f c3 hf
    obtain ⟨c8, hf⟩ := ck_t hf
    refine lv_aload_n hx hb dL_part_6 rfl (lv_at hl 0 rfl) ?_
    refine lv_iload_n hx hb dL_part_7 rfl (lv_at hl 1 rfl) ?_
    refine va_sld hx hb hXs hbl hbA hS (inb_in c8) dL_part_8 ?_
    refine lv_goto (tgt := 25) hx hb dL_part_9 (by decide) ?_
    exact B25 _ hf
set_option maxHeartbeats 16000000 in
set_option maxRecDepth 100000 in
theorem mL_isBetter (l : Launch) (hfl : l.stackTraces = false) (D : va_G) (cI cZ : ClassId) (A : Nat → Nat) (cs : St) (cw : St) (ct : St) (cu : St) (cl : St) (cb : St) (cp : St) (cg : St) (x1 : Int32) (x2 : Int32) (sz : Nat) (res : Int32) (hf : fL_isBetter cg x1 x2 = some res) : Met l yL_isBetter wsL_isBetter ({ frames := 0, cells := 0, slots := 0, locals := 0 }) (xP D (tysX cI cZ) [.ref (A 56), .int x1, .int x2] (wLW cI cZ A cs cw ct cu cl cb cp cg) sz) (mQi D res (wLW cI cZ A cs cw ct cu cl cb cp cg) (wLW cI cZ A cs cw ct cu cl cb cp cg) sz) 0 0 (va_A (wLW cI cZ A cs cw ct cu cl cb cp cg) sz) := by
  refine mkL (cc := cL_isBetter) (maxL := 3) (by decide +kernel) rfl rfl (Nat.le_of_ble_eq_true rfl) ?_
  intro p e s m args below meth c A0 Q S hK hG hX hZ hA hR
  obtain ⟨hx, hb, hml, hown, hts⟩ := id S
  intro H locs hP hD hS ls hl
  have hl : lv_has ls 3 [(0, .ref (A 56)), (1, .int x1), (2, .int x2)] := hl
  unfold fL_isBetter at hf
  refine lv_aload_n hx hb dL_isBetter_0 rfl (lv_at hl 0 rfl) ?_
  refine lv_iload_n hx hb dL_isBetter_1 rfl (lv_at hl 1 rfl) ?_
  obtain ⟨c2, hf⟩ := ck_t hf
  refine va_iald (f := cg 3) hx hb hK hP 56 0 (gLW_56 _ _ _ _ _ _ _ _ _ _ _) rfl (inb_in c2) dL_isBetter_2 ?_
  refine lv_aload_n hx hb dL_isBetter_3 rfl (lv_at hl 0 rfl) ?_
  refine lv_iload_n hx hb dL_isBetter_4 rfl (lv_at hl 2 rfl) ?_
  obtain ⟨c5, hf⟩ := ck_t hf
  refine va_iald (f := cg 3) hx hb hK hP 56 0 (gLW_56 _ _ _ _ _ _ _ _ _ _ _) rfl (inb_in c5) dL_isBetter_5 ?_
  refine lv_icmp_lt (tgt := 23) hx hb dL_isBetter_6 (by decide) (fun c6 => ?_) (fun c6 => ?_)
  · have hf := if_t c6 hf
    refine lv_iconst (v := 1) hx hb dL_isBetter_23 (by decide) ?_
    refine lv_goto (tgt := 28) hx hb dL_isBetter_24 (by decide) ?_
    exact hR _ ls H locs _ _ _ _ (congrArg (fun q => q) (Option.some.inj hf)) rfl (by decide) (by omega) (by omega) dL_isBetter_28 hP hD hS
  · have hf := if_f c6 hf
    refine lv_aload_n hx hb dL_isBetter_9 rfl (lv_at hl 0 rfl) ?_
    refine lv_iload_n hx hb dL_isBetter_10 rfl (lv_at hl 1 rfl) ?_
    obtain ⟨c11, hf⟩ := ck_t hf
    refine va_iald (f := cg 3) hx hb hK hP 56 0 (gLW_56 _ _ _ _ _ _ _ _ _ _ _) rfl (inb_in c11) dL_isBetter_11 ?_
    refine lv_aload_n hx hb dL_isBetter_12 rfl (lv_at hl 0 rfl) ?_
    refine lv_iload_n hx hb dL_isBetter_13 rfl (lv_at hl 2 rfl) ?_
    obtain ⟨c14, hf⟩ := ck_t hf
    refine va_iald (f := cg 3) hx hb hK hP 56 0 (gLW_56 _ _ _ _ _ _ _ _ _ _ _) rfl (inb_in c14) dL_isBetter_14 ?_
    refine lv_icmp_ne (tgt := 27) hx hb dL_isBetter_15 (by decide) (fun c15 => ?_) (fun c15 => ?_)
    · have hf := if_f c15 hf
      refine lv_iconst (v := 0) hx hb dL_isBetter_27 (by decide) ?_
      exact hR _ ls H locs _ _ _ _ (congrArg (fun q => q) (Option.some.inj hf)) rfl (by decide) (by omega) (by omega) dL_isBetter_28 hP hD hS
    · have hf := if_t c15 hf
      refine lv_iload_n hx hb dL_isBetter_18 rfl (lv_at hl 1 rfl) ?_
      refine lv_iload_n hx hb dL_isBetter_19 rfl (lv_at hl 2 rfl) ?_
      refine lv_icmp_ge (tgt := 27) hx hb dL_isBetter_20 (by decide) (fun c20 => ?_) (fun c20 => ?_)
      · have hf := if_t c20 hf
        refine lv_iconst (v := 0) hx hb dL_isBetter_27 (by decide) ?_
        exact hR _ ls H locs _ _ _ _ (congrArg (fun q => q) (Option.some.inj hf)) rfl (by decide) (by omega) (by omega) dL_isBetter_28 hP hD hS
      · have hf := if_f c20 hf
        refine lv_iconst (v := 1) hx hb dL_isBetter_23 (by decide) ?_
        refine lv_goto (tgt := 28) hx hb dL_isBetter_24 (by decide) ?_
        exact hR _ ls H locs _ _ _ _ (congrArg (fun q => q) (Option.some.inj hf)) rfl (by decide) (by omega) (by omega) dL_isBetter_28 hP hD hS
set_option maxHeartbeats 16000000 in
set_option maxRecDepth 100000 in
theorem mL_isPassable (l : Launch) (hfl : l.stackTraces = false) (D : va_G) (cI cZ : ClassId) (A : Nat → Nat) (cs : St) (cw : St) (ct : St) (cu : St) (cl : St) (cb : St) (cp : St) (cg : St) (x2 : Int32) (sz : Nat) (res : Int32) (hf : fL_isPassable cs ct cg x2 = some res) : Met l yL_isPassable wsL_isPassable ({ frames := 9, cells := 0, slots := 0, locals := 161 }) (xP D (tysX cI cZ) [.ref (A 0), .ref (A 53), .int x2] (wLW cI cZ A cs cw ct cu cl cb cp cg) sz) (mQi D res (wLW cI cZ A cs cw ct cu cl cb cp cg) (wLW cI cZ A cs cw ct cu cl cb cp cg) sz) 0 0 (va_A (wLW cI cZ A cs cw ct cu cl cb cp cg) sz) := by
  refine mkL (cc := cL_isPassable) (maxL := 3) (by decide +kernel) rfl rfl (Nat.le_of_ble_eq_true rfl) ?_
  intro p e s m args below meth c A0 Q S hK hG hX hZ hA hR
  obtain ⟨hx, hb, hml, hown, hts⟩ := id S
  intro H locs hP hD hS ls hl
  have hl : lv_has ls 3 [(0, .ref (A 0)), (1, .ref (A 53)), (2, .int x2)] := hl
  unfold fL_isPassable at hf
  refine lv_aload_n hx hb dL_isPassable_0 rfl (lv_at hl 1 rfl) ?_
  refine lv_iload_n hx hb dL_isPassable_1 rfl (lv_at hl 2 rfl) ?_
  obtain ⟨c2, hf⟩ := ck_t hf
  refine va_iald (f := cg 0) hx hb hK hP 53 0 (gLW_53 _ _ _ _ _ _ _ _ _ _ _) rfl (inb_in c2) dL_isPassable_2 ?_
  refine lv_if_lt (tgt := 50) hx hb dL_isPassable_3 (by decide) (fun c3 => ?_) (fun c3 => ?_)
  · have hf := if_t c3 hf
    refine lv_iconst (v := 0) hx hb dL_isPassable_50 (by decide) ?_
    exact hR _ ls H locs _ _ _ _ (congrArg (fun q => q) (Option.some.inj hf)) rfl (by decide) (by omega) (by omega) dL_isPassable_51 hP hD hS
  · have hf := if_f c3 hf
    refine lv_aload_n hx hb dL_isPassable_6 rfl (lv_at hl 1 rfl) ?_
    refine lv_iload_n hx hb dL_isPassable_7 rfl (lv_at hl 2 rfl) ?_
    obtain ⟨c8, hf⟩ := ck_t hf
    refine va_iald (f := cg 0) hx hb hK hP 53 0 (gLW_53 _ _ _ _ _ _ _ _ _ _ _) rfl (inb_in c8) dL_isPassable_8 ?_
    refine lv_bipush (v := 100) hx hb dL_isPassable_9 (by decide) ?_
    refine lv_icmp_ge (tgt := 50) hx hb dL_isPassable_11 (by decide) (fun c11 => ?_) (fun c11 => ?_)
    · have hf := if_t c11 hf
      refine lv_iconst (v := 0) hx hb dL_isPassable_50 (by decide) ?_
      exact hR _ ls H locs _ _ _ _ (congrArg (fun q => q) (Option.some.inj hf)) rfl (by decide) (by omega) (by omega) dL_isPassable_51 hP hD hS
    · have hf := if_f c11 hf
      refine lv_aload_n hx hb dL_isPassable_14 rfl (lv_at hl 0 rfl) ?_
      refine lv_iload_n hx hb dL_isPassable_15 rfl (lv_at hl 2 rfl) ?_
      refine lv_iconst (v := 5) hx hb dL_isPassable_16 (by decide) ?_
      refine lv_idiv hx hb dL_isPassable_17 (by decide) ?_
      refine lv_iload_n hx hb dL_isPassable_18 rfl (lv_at hl 2 rfl) ?_
      refine lv_iconst (v := 5) hx hb dL_isPassable_19 (by decide) ?_
      refine lv_irem hx hb dL_isPassable_20 (by decide) ?_
      refine lv_iconst (v := 2) hx hb dL_isPassable_21 (by decide) ?_
      obtain ⟨q22, h22, hf⟩ := bn_t hf
      refine cl_i (va_runV (As := [.int (x2 / 5), .int (x2 - x2 / 5 * 5), .int 2]) (rest := []) S (mX5_port l D cI cZ (aLW_X5_0_1_2_3_4_5_6 A) cs cw ct cu cl cb cp (x2 / 5) (x2 - x2 / 5 * 5) 2 H.size q22 h22) (cwV 3 hts gL_isPassable_X5_port rfl rfl rfl (by decide +kernel) ⟨Nat.le_of_ble_eq_true rfl, Nat.le_of_ble_eq_true rfl⟩) (mP_V (ci := 5) (cutLW_X5_0_1_2_3_4_5_6 _ _ _ _ _ _ _ _ _ _ _ st0 st0 st0 st0 st0 st0 st0) hP hD hK hG rfl (gX5_0 _ _ _ _ _ _ _ _ _ _)) rfl rfl hl.1 rfl (lv_room (Nat.le_of_ble_eq_true rfl)) dL_isPassable_22 ⟨by show _ ≤ 0; omega, by show _ ≤ 0; omega⟩) (cutLW_X5_0_1_2_3_4_5_6 _ _ _ _ _ _ _ _ _ _ _ _ _ _ _ _ _ _) hP hD hS hA (fun H locs hP hD hS => ?_)
      refine lv_if_ne (tgt := 50) hx hb dL_isPassable_25 (by decide) (fun c25 => ?_) (fun c25 => ?_)
      · have hf := if_f c25 hf
        refine lv_iconst (v := 0) hx hb dL_isPassable_50 (by decide) ?_
        exact hR _ ls H locs _ _ _ _ (congrArg (fun q => q) (Option.some.inj hf)) rfl (by decide) (by omega) (by omega) dL_isPassable_51 hP hD hS
      · have hf := if_t c25 hf
        refine lv_aload_n hx hb dL_isPassable_28 rfl (lv_at hl 0 rfl) ?_
        refine lv_aload_n hx hb dL_isPassable_29 rfl (lv_at hl 1 rfl) ?_
        refine lv_iload_n hx hb dL_isPassable_30 rfl (lv_at hl 2 rfl) ?_
        obtain ⟨c31, hf⟩ := ck_t hf
        refine va_iald (f := cg 0) hx hb hK hP 53 0 (gLW_53 _ _ _ _ _ _ _ _ _ _ _) rfl (inb_in c31) dL_isPassable_31 ?_
        refine lv_iconst (v := 5) hx hb dL_isPassable_32 (by decide) ?_
        refine lv_idiv hx hb dL_isPassable_33 (by decide) ?_
        refine lv_aload_n hx hb dL_isPassable_34 rfl (lv_at hl 1 rfl) ?_
        refine lv_iload_n hx hb dL_isPassable_35 rfl (lv_at hl 2 rfl) ?_
        obtain ⟨c36, hf⟩ := ck_t hf
        refine va_iald (f := cg 0) hx hb hK hP 53 0 (gLW_53 _ _ _ _ _ _ _ _ _ _ _) rfl (inb_in c36) dL_isPassable_36 ?_
        refine lv_iconst (v := 5) hx hb dL_isPassable_37 (by decide) ?_
        refine lv_irem hx hb dL_isPassable_38 (by decide) ?_
        refine lv_iconst (v := 2) hx hb dL_isPassable_39 (by decide) ?_
        obtain ⟨q40, h40, hf⟩ := bn_t hf
        refine cl_i (va_runV (As := [.int ((cg 0 x2.toNatClampNeg) / 5), .int ((cg 0 x2.toNatClampNeg) - (cg 0 x2.toNatClampNeg) / 5 * 5), .int 2]) (rest := []) S (mX5_port l D cI cZ (aLW_X5_0_1_2_3_4_5_6 A) cs cw ct cu cl cb cp ((cg 0 x2.toNatClampNeg) / 5) ((cg 0 x2.toNatClampNeg) - (cg 0 x2.toNatClampNeg) / 5 * 5) 2 H.size q40 h40) (cwV 3 hts gL_isPassable_X5_port rfl rfl rfl (by decide +kernel) ⟨Nat.le_of_ble_eq_true rfl, Nat.le_of_ble_eq_true rfl⟩) (mP_V (ci := 5) (cutLW_X5_0_1_2_3_4_5_6 _ _ _ _ _ _ _ _ _ _ _ st0 st0 st0 st0 st0 st0 st0) hP hD hK hG rfl (gX5_0 _ _ _ _ _ _ _ _ _ _)) rfl rfl hl.1 rfl (lv_room (Nat.le_of_ble_eq_true rfl)) dL_isPassable_40 ⟨by show _ ≤ 0; omega, by show _ ≤ 0; omega⟩) (cutLW_X5_0_1_2_3_4_5_6 _ _ _ _ _ _ _ _ _ _ _ _ _ _ _ _ _ _) hP hD hS hA (fun H locs hP hD hS => ?_)
        refine lv_if_ne (tgt := 50) hx hb dL_isPassable_43 (by decide) (fun c43 => ?_) (fun c43 => ?_)
        · have hf := if_f c43 hf
          refine lv_iconst (v := 0) hx hb dL_isPassable_50 (by decide) ?_
          exact hR _ ls H locs _ _ _ _ (congrArg (fun q => q) (Option.some.inj hf)) rfl (by decide) (by omega) (by omega) dL_isPassable_51 hP hD hS
        · have hf := if_t c43 hf
          refine lv_iconst (v := 1) hx hb dL_isPassable_46 (by decide) ?_
          refine lv_goto (tgt := 51) hx hb dL_isPassable_47 (by decide) ?_
          exact hR _ ls H locs _ _ _ _ (congrArg (fun q => q) (Option.some.inj hf)) rfl (by decide) (by omega) (by omega) dL_isPassable_51 hP hD hS
set_option maxHeartbeats 16000000 in
set_option maxRecDepth 100000 in
theorem mL_plained (l : Launch) (hfl : l.stackTraces = false) (D : va_G) (cI cZ : ClassId) (A : Nat → Nat) (cs : St) (cw : St) (ct : St) (cu : St) (cl : St) (cb : St) (cp : St) (cg : St) (x1 : Int32) (x2 : Int32) (x3 : Int32) (sz : Nat) (res : Int32 × St) (hf : fL_plained cl x1 x2 x3 = some (.inl res)) : Met l yL_plained wsL_plained ({ frames := 9, cells := 0, slots := 0, locals := 160 }) (xP D (tysX cI cZ) [.ref (A 0), .int x1, .int x2, .int x3] (wLW cI cZ A cs cw ct cu cl cb cp cg) sz) (mQi D res.1 (wLW cI cZ A cs cw ct cu cl cb cp cg) (wLW cI cZ A cs cw ct cu (res.2) cb cp cg) sz) 0 0 (va_A (wLW cI cZ A cs cw ct cu cl cb cp cg) sz) := by
  refine mkL (cc := cL_plained) (maxL := 4) (by decide +kernel) rfl rfl (Nat.le_of_ble_eq_true rfl) ?_
  intro p e s m args below meth c A0 Q S hK hG hX hZ hA hR
  obtain ⟨hx, hb, hml, hown, hts⟩ := id S
  intro H locs hP hD hS ls hl
  have hl : lv_has ls 4 [(0, .ref (A 0)), (1, .int x1), (2, .int x2), (3, .int x3)] := hl
  unfold fL_plained at hf
  refine lv_aload_n hx hb dL_plained_0 rfl (lv_at hl 0 rfl) ?_
  refine lv_iload_n hx hb dL_plained_1 rfl (lv_at hl 1 rfl) ?_
  refine lv_iload_n hx hb dL_plained_2 rfl (lv_at hl 2 rfl) ?_
  refine lv_iload_n hx hb dL_plained_3 rfl (lv_at hl 3 rfl) ?_
  obtain ⟨q4, h4, hf⟩ := bx_l hf
  refine cl_v (va_runV (As := [.int x1, .int x2, .int x3]) (rest := []) S (mX5_plain l D cI cZ (aLW_X5_0_1_2_3_4_5_6 A) cs cw ct cu cl cb cp x1 x2 x3 H.size q4 h4) (cwV 3 hts gL_plained_X5_plain rfl rfl rfl (by decide +kernel) ⟨Nat.le_of_ble_eq_true rfl, Nat.le_of_ble_eq_true rfl⟩) (mP_V (ci := 5) (cutLW_X5_0_1_2_3_4_5_6 _ _ _ _ _ _ _ _ _ _ _ st0 st0 st0 st0 st0 st0 st0) hP hD hK hG rfl (gX5_0 _ _ _ _ _ _ _ _ _ _)) rfl rfl hl.1 rfl (lv_room (Nat.le_of_ble_eq_true rfl)) dL_plained_4 ⟨by show _ ≤ 0; omega, by show _ ≤ 0; omega⟩) (cutLW_X5_0_1_2_3_4_5_6 _ _ _ _ _ _ _ _ _ _ _ _ _ _ _ _ _ _) hP hD hS hA (fun H locs hP hD hS => ?_)
  refine lv_iconst (v := 0) hx hb dL_plained_7 (by decide) ?_
  exact hR _ ls H locs _ _ _ _ (congrArg (fun q => q.1) (Sum.inl.inj (Option.some.inj hf))) (congrArg (fun q => (wLW cI cZ A cs cw ct cu (q.2) cb cp cg)) (Sum.inl.inj (Option.some.inj hf))) rfl (by omega) (by omega) dL_plained_8 hP hD hS
set_option maxHeartbeats 4000000 in
set_option maxRecDepth 100000 in
theorem xL_plained (l : Launch) (hfl : l.stackTraces = false) (D : va_G) (cI cZ : ClassId) (A : Nat → Nat)  (cs : St) (cw : St) (ct : St) (cu : St) (cl : St) (cb : St) (cp : St) (cg : St) (x1 : Int32) (x2 : Int32) (x3 : Int32) (sz : Nat) (res : Nat) (hf : fL_plained cl x1 x2 x3 = some (.inr res)) : vx_Met l yL_plained wsL_plained ({ frames := 9, cells := 1, slots := 6, locals := 160 }) (xP D (tysX cI cZ) [.ref (A 0), .int x1, .int x2, .int x3] (wLW cI cZ A cs cw ct cu cl cb cp cg) sz) (xQi (va_A (wLW cI cZ A cs cw ct cu cl cb cp cg) sz)) (xC D (wLW cI cZ A cs cw ct cu cl cb cp cg) res sz) 1 6 (va_A (wLW cI cZ A cs cw ct cu cl cb cp cg) sz) := by
  refine mkXL (cc := cL_plained) (maxL := 4) (by decide +kernel) rfl rfl (Nat.le_of_ble_eq_true rfl) ?_
  intro p e s m args below meth c A0 Q S hK hG hX hZ hA hO
  obtain ⟨hx, hb, hml, hown, hts⟩ := id S
  intro H locs hP hD hS ls hl
  have hl : lv_has ls 4 [(0, .ref (A 0)), (1, .int x1), (2, .int x2), (3, .int x3)] := hl
  unfold fL_plained at hf
  refine lv_aload_n hx hb dL_plained_0 rfl (lv_at hl 0 rfl) ?_
  refine lv_iload_n hx hb dL_plained_1 rfl (lv_at hl 1 rfl) ?_
  refine lv_iload_n hx hb dL_plained_2 rfl (lv_at hl 2 rfl) ?_
  refine lv_iload_n hx hb dL_plained_3 rfl (lv_at hl 3 rfl) ?_
  rcases bx_r hf with h4x | ⟨q4, h4, hf⟩
  · exact clx_v (k := res) (vx_runV (As := [.int x1, .int x2, .int x3]) (rest := []) S (xX5_plain l hfl D cI cZ (aLW_X5_0_1_2_3_4_5_6 A) cs cw ct cu cl cb cp x1 x2 x3 H.size res h4x) (cwV 3 hts gL_plained_X5_plain rfl rfl rfl (by decide +kernel) ⟨Nat.le_of_ble_eq_true rfl, Nat.le_of_ble_eq_true rfl⟩) (xP_V (ci := 5) (cutLW_X5_0_1_2_3_4_5_6 _ _ _ _ _ _ _ _ _ _ _ st0 st0 st0 st0 st0 st0 st0) hP hD hS hA hK hG hX hZ rfl (gX5_0 _ _ _ _ _ _ _ _ _ _)) rfl rfl hl.1 rfl (lv_room (Nat.le_of_ble_eq_true rfl)) dL_plained_4 ⟨Nat.le_of_ble_eq_true rfl, Nat.le_of_ble_eq_true rfl⟩) (cutLW_X5_0_1_2_3_4_5_6 _ _ _ _ _ _ _ _ _ _ _ _ _ _ _ _ _ _) rfl hP hD hS hA (fun E ce q9 H locs hE hce hcv hcl hP hD hS => hO _ ls H locs _ E ce q9 hE hce hcv hcl hP hD hS)
  refine cl_v (va_runV (As := [.int x1, .int x2, .int x3]) (rest := []) S (mX5_plain l D cI cZ (aLW_X5_0_1_2_3_4_5_6 A) cs cw ct cu cl cb cp x1 x2 x3 H.size q4 h4) (cwV 3 hts gL_plained_X5_plain rfl rfl rfl (by decide +kernel) ⟨Nat.le_of_ble_eq_true rfl, Nat.le_of_ble_eq_true rfl⟩) (mP_V (ci := 5) (cutLW_X5_0_1_2_3_4_5_6 _ _ _ _ _ _ _ _ _ _ _ st0 st0 st0 st0 st0 st0 st0) hP hD hK hG rfl (gX5_0 _ _ _ _ _ _ _ _ _ _)) rfl rfl hl.1 rfl (lv_room (Nat.le_of_ble_eq_true rfl)) dL_plained_4 ⟨Nat.le_of_ble_eq_true rfl, Nat.le_of_ble_eq_true rfl⟩) (cutLW_X5_0_1_2_3_4_5_6 _ _ _ _ _ _ _ _ _ _ _ _ _ _ _ _ _ _) hP hD hS hA (fun H locs hP hD hS => ?_)
  refine lv_iconst (v := 0) hx hb dL_plained_7 (by decide) ?_
  cases hf
set_option maxHeartbeats 16000000 in
set_option maxRecDepth 100000 in
theorem mL_trunked (l : Launch) (hfl : l.stackTraces = false) (D : va_G) (cI cZ : ClassId) (A : Nat → Nat) (cs : St) (cw : St) (ct : St) (cu : St) (cl : St) (cb : St) (cp : St) (cg : St) (x1 : Int32) (x2 : Int32) (x3 : Int32) (x4 : Int32) (sz : Nat) (res : Int32 × St) (hf : fL_trunked cl x1 x2 x3 x4 = some (.inl res)) : Met l yL_trunked wsL_trunked ({ frames := 9, cells := 0, slots := 0, locals := 161 }) (xP D (tysX cI cZ) [.ref (A 0), .int x1, .int x2, .int x3, .int x4] (wLW cI cZ A cs cw ct cu cl cb cp cg) sz) (mQi D res.1 (wLW cI cZ A cs cw ct cu cl cb cp cg) (wLW cI cZ A cs cw ct cu (res.2) cb cp cg) sz) 0 0 (va_A (wLW cI cZ A cs cw ct cu cl cb cp cg) sz) := by
  refine mkL (cc := cL_trunked) (maxL := 5) (by decide +kernel) rfl rfl (Nat.le_of_ble_eq_true rfl) ?_
  intro p e s m args below meth c A0 Q S hK hG hX hZ hA hR
  obtain ⟨hx, hb, hml, hown, hts⟩ := id S
  intro H locs hP hD hS ls hl
  have hl : lv_has ls 5 [(0, .ref (A 0)), (1, .int x1), (2, .int x2), (3, .int x3), (4, .int x4)] := hl
  unfold fL_trunked at hf
  refine lv_aload_n hx hb dL_trunked_0 rfl (lv_at hl 0 rfl) ?_
  refine lv_iload_n hx hb dL_trunked_1 rfl (lv_at hl 1 rfl) ?_
  refine lv_iload_n hx hb dL_trunked_2 rfl (lv_at hl 2 rfl) ?_
  refine lv_iload_n hx hb dL_trunked_3 rfl (lv_at hl 3 rfl) ?_
  refine lv_iload hx hb dL_trunked_4 (lv_at hl 4 rfl) ?_
  obtain ⟨q6, h6, hf⟩ := bx_l hf
  refine cl_v (va_runV (As := [.int x1, .int x2, .int x3, .int x4]) (rest := []) S (mX5_trunk l D cI cZ (aLW_X5_0_1_2_3_4_5_6 A) cs cw ct cu cl cb cp x1 x2 x3 x4 H.size q6 h6) (cwV 4 hts gL_trunked_X5_trunk rfl rfl rfl (by decide +kernel) ⟨Nat.le_of_ble_eq_true rfl, Nat.le_of_ble_eq_true rfl⟩) (mP_V (ci := 5) (cutLW_X5_0_1_2_3_4_5_6 _ _ _ _ _ _ _ _ _ _ _ st0 st0 st0 st0 st0 st0 st0) hP hD hK hG rfl (gX5_0 _ _ _ _ _ _ _ _ _ _)) rfl rfl hl.1 rfl (lv_room (Nat.le_of_ble_eq_true rfl)) dL_trunked_6 ⟨by show _ ≤ 0; omega, by show _ ≤ 0; omega⟩) (cutLW_X5_0_1_2_3_4_5_6 _ _ _ _ _ _ _ _ _ _ _ _ _ _ _ _ _ _) hP hD hS hA (fun H locs hP hD hS => ?_)
  refine lv_iconst (v := 0) hx hb dL_trunked_9 (by decide) ?_
  exact hR _ ls H locs _ _ _ _ (congrArg (fun q => q.1) (Sum.inl.inj (Option.some.inj hf))) (congrArg (fun q => (wLW cI cZ A cs cw ct cu (q.2) cb cp cg)) (Sum.inl.inj (Option.some.inj hf))) rfl (by omega) (by omega) dL_trunked_10 hP hD hS
set_option maxHeartbeats 4000000 in
set_option maxRecDepth 100000 in
theorem xL_trunked (l : Launch) (hfl : l.stackTraces = false) (D : va_G) (cI cZ : ClassId) (A : Nat → Nat)  (cs : St) (cw : St) (ct : St) (cu : St) (cl : St) (cb : St) (cp : St) (cg : St) (x1 : Int32) (x2 : Int32) (x3 : Int32) (x4 : Int32) (sz : Nat) (res : Nat) (hf : fL_trunked cl x1 x2 x3 x4 = some (.inr res)) : vx_Met l yL_trunked wsL_trunked ({ frames := 9, cells := 1, slots := 6, locals := 161 }) (xP D (tysX cI cZ) [.ref (A 0), .int x1, .int x2, .int x3, .int x4] (wLW cI cZ A cs cw ct cu cl cb cp cg) sz) (xQi (va_A (wLW cI cZ A cs cw ct cu cl cb cp cg) sz)) (xC D (wLW cI cZ A cs cw ct cu cl cb cp cg) res sz) 1 6 (va_A (wLW cI cZ A cs cw ct cu cl cb cp cg) sz) := by
  refine mkXL (cc := cL_trunked) (maxL := 5) (by decide +kernel) rfl rfl (Nat.le_of_ble_eq_true rfl) ?_
  intro p e s m args below meth c A0 Q S hK hG hX hZ hA hO
  obtain ⟨hx, hb, hml, hown, hts⟩ := id S
  intro H locs hP hD hS ls hl
  have hl : lv_has ls 5 [(0, .ref (A 0)), (1, .int x1), (2, .int x2), (3, .int x3), (4, .int x4)] := hl
  unfold fL_trunked at hf
  refine lv_aload_n hx hb dL_trunked_0 rfl (lv_at hl 0 rfl) ?_
  refine lv_iload_n hx hb dL_trunked_1 rfl (lv_at hl 1 rfl) ?_
  refine lv_iload_n hx hb dL_trunked_2 rfl (lv_at hl 2 rfl) ?_
  refine lv_iload_n hx hb dL_trunked_3 rfl (lv_at hl 3 rfl) ?_
  refine lv_iload hx hb dL_trunked_4 (lv_at hl 4 rfl) ?_
  rcases bx_r hf with h6x | ⟨q6, h6, hf⟩
  · exact clx_v (k := res) (vx_runV (As := [.int x1, .int x2, .int x3, .int x4]) (rest := []) S (xX5_trunk l hfl D cI cZ (aLW_X5_0_1_2_3_4_5_6 A) cs cw ct cu cl cb cp x1 x2 x3 x4 H.size res h6x) (cwV 4 hts gL_trunked_X5_trunk rfl rfl rfl (by decide +kernel) ⟨Nat.le_of_ble_eq_true rfl, Nat.le_of_ble_eq_true rfl⟩) (xP_V (ci := 5) (cutLW_X5_0_1_2_3_4_5_6 _ _ _ _ _ _ _ _ _ _ _ st0 st0 st0 st0 st0 st0 st0) hP hD hS hA hK hG hX hZ rfl (gX5_0 _ _ _ _ _ _ _ _ _ _)) rfl rfl hl.1 rfl (lv_room (Nat.le_of_ble_eq_true rfl)) dL_trunked_6 ⟨Nat.le_of_ble_eq_true rfl, Nat.le_of_ble_eq_true rfl⟩) (cutLW_X5_0_1_2_3_4_5_6 _ _ _ _ _ _ _ _ _ _ _ _ _ _ _ _ _ _) rfl hP hD hS hA (fun E ce q9 H locs hE hce hcv hcl hP hD hS => hO _ ls H locs _ E ce q9 hE hce hcv hcl hP hD hS)
  refine cl_v (va_runV (As := [.int x1, .int x2, .int x3, .int x4]) (rest := []) S (mX5_trunk l D cI cZ (aLW_X5_0_1_2_3_4_5_6 A) cs cw ct cu cl cb cp x1 x2 x3 x4 H.size q6 h6) (cwV 4 hts gL_trunked_X5_trunk rfl rfl rfl (by decide +kernel) ⟨Nat.le_of_ble_eq_true rfl, Nat.le_of_ble_eq_true rfl⟩) (mP_V (ci := 5) (cutLW_X5_0_1_2_3_4_5_6 _ _ _ _ _ _ _ _ _ _ _ st0 st0 st0 st0 st0 st0 st0) hP hD hK hG rfl (gX5_0 _ _ _ _ _ _ _ _ _ _)) rfl rfl hl.1 rfl (lv_room (Nat.le_of_ble_eq_true rfl)) dL_trunked_6 ⟨Nat.le_of_ble_eq_true rfl, Nat.le_of_ble_eq_true rfl⟩) (cutLW_X5_0_1_2_3_4_5_6 _ _ _ _ _ _ _ _ _ _ _ _ _ _ _ _ _ _) hP hD hS hA (fun H locs hP hD hS => ?_)
  refine lv_iconst (v := 0) hx hb dL_trunked_9 (by decide) ?_
  cases hf

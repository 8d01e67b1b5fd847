set_option maxHeartbeats 4000000 in
set_option maxRecDepth 100000 in
theorem mX5_spotOf (l : Launch) (D : va_G) (cI cZ : ClassId)  (x0 : Int32) (x1 : Int32) (sz : Nat) (res : Int32) (hf : fX5_spotOf x0 x1 = some res) : Met l yX5_spotOf wsX5_spotOf ({ frames := 0, cells := 0, slots := 0, locals := 0 }) (mP D (tysX cI cZ) [.int x0, .int x1] [] sz) (mQi D res [] [] sz) 0 0 (va_A [] sz) := by
  refine mkM_i (cc := cX5_spotOf) (maxL := 2) (own := RX5) (by decide +kernel) rfl rfl (Nat.le_of_ble_eq_true rfl) ?_
  intro p e s m args below meth c A0 Q S hK hG hA hR
  obtain ⟨hx, hb, hml, hown, hts⟩ := id S
  intro H locs hP hD hS ls hl
  have hl : lv_has ls 2 [(0, .int x0), (1, .int x1)] := hl
  unfold fX5_spotOf at hf
  refine lv_iload_n hx hb dX5_spotOf_0 rfl (lv_at hl 0 rfl) ?_
  refine lv_iconst (v := 5) hx hb dX5_spotOf_1 (by decide) ?_
  refine lv_imul hx hb dX5_spotOf_2 ?_
  refine lv_iload_n hx hb dX5_spotOf_3 rfl (lv_at hl 1 rfl) ?_
  refine lv_iadd hx hb dX5_spotOf_4 ?_
  exact hR _ ls H locs _ _ (congrArg (fun q => q) (Option.some.inj hf)) rfl rfl dX5_spotOf_5 hP hD hS
set_option maxHeartbeats 4000000 in
set_option maxRecDepth 100000 in
theorem mX4_isBare (l : Launch) (D : va_G) (cI cZ : ClassId) (A : Nat → Nat)  (cw : St) (x1 : Int32) (sz : Nat) (res : Int32) (hf : fX4_isBare cw x1 = some res) : Met l yX4_isBare wsX4_isBare ({ frames := 0, cells := 0, slots := 0, locals := 0 }) (mP D (tysX cI cZ) [.ref (A 0), .int x1] (wX4 cI cZ A cw) sz) (mQi D res (wX4 cI cZ A cw) (wX4 cI cZ A cw) sz) 0 0 (va_A (wX4 cI cZ A cw) sz) := by
  refine mkM_i (cc := cX4_isBare) (maxL := 2) (own := RX4) (by decide +kernel) rfl rfl (Nat.le_of_ble_eq_true rfl) ?_
  intro p e s m args below meth c A0 Q S hK hG hA hR
  obtain ⟨hx, hb, hml, hown, hts⟩ := id S
  have k9 := hts (.fieldLink RX4 9 "SwitchFloor$Wiring" "peer" "[I") (by decide +kernel)
  have iX4 : ∀ w ∈ wsX40, w ∈ wsX4_isBare := by decide +kernel
  have k18 := hts (.fieldLink RX4 18 "SwitchFloor$Wiring" "house" "[I") (by decide +kernel)
  intro H locs hP hD hS ls hl
  have hl : lv_has ls 2 [(0, .ref (A 0)), (1, .int x1)] := hl
  unfold fX4_isBare at hf
  refine lv_aload_n hx hb dX4_isBare_0 rfl (lv_at hl 0 rfl) ?_
  refine ld_f S iX4 hK hP 0 0 (.ref (A 1)) (gX4_0 _ _ _ _) rfl (by decide) k9 rfl rfl dX4_isBare_1 ?_
  refine lv_iload_n hx hb dX4_isBare_4 rfl (lv_at hl 1 rfl) ?_
  obtain ⟨c5, hf⟩ := ck_t hf
  refine va_iald (f := cw 0) hx hb hK hP 1 0 (gX4_1 _ _ _ _) rfl (inb_in c5) dX4_isBare_5 ?_
  refine lv_iconst (v := (-1)) hx hb dX4_isBare_6 (by decide) ?_
  refine lv_icmp_ne (tgt := 24) hx hb dX4_isBare_7 (by decide) (fun c7 => ?_) (fun c7 => ?_)
  · have hf := if_f c7 hf
    refine lv_iconst (v := 0) hx hb dX4_isBare_24 (by decide) ?_
    exact hR _ ls H locs _ _ (congrArg (fun q => q) (Option.some.inj hf)) rfl (by decide) dX4_isBare_25 hP hD hS
  · have hf := if_t c7 hf
    refine lv_aload_n hx hb dX4_isBare_10 rfl (lv_at hl 0 rfl) ?_
    refine ld_f S iX4 hK hP 0 2 (.ref (A 3)) (gX4_0 _ _ _ _) rfl (by decide) k18 rfl rfl dX4_isBare_11 ?_
    refine lv_iload_n hx hb dX4_isBare_14 rfl (lv_at hl 1 rfl) ?_
    obtain ⟨c15, hf⟩ := ck_t hf
    refine va_iald (f := cw 2) hx hb hK hP 3 0 (gX4_3 _ _ _ _) rfl (inb_in c15) dX4_isBare_15 ?_
    refine lv_iconst (v := (-1)) hx hb dX4_isBare_16 (by decide) ?_
    refine lv_icmp_ne (tgt := 24) hx hb dX4_isBare_17 (by decide) (fun c17 => ?_) (fun c17 => ?_)
    · have hf := if_f c17 hf
      refine lv_iconst (v := 0) hx hb dX4_isBare_24 (by decide) ?_
      exact hR _ ls H locs _ _ (congrArg (fun q => q) (Option.some.inj hf)) rfl (by decide) dX4_isBare_25 hP hD hS
    · have hf := if_t c17 hf
      refine lv_iconst (v := 1) hx hb dX4_isBare_20 (by decide) ?_
      refine lv_goto (tgt := 25) hx hb dX4_isBare_21 (by decide) ?_
      exact hR _ ls H locs _ _ (congrArg (fun q => q) (Option.some.inj hf)) rfl (by decide) dX4_isBare_25 hP hD hS
set_option maxHeartbeats 4000000 in
set_option maxRecDepth 100000 in
theorem mX4_putWire (l : Launch) (D : va_G) (cI cZ : ClassId) (A : Nat → Nat)  (cw : St) (x1 : Int32) (x2 : Int32) (x3 : Int32) (sz : Nat) (res : St) (hf : fX4_putWire cw x1 x2 x3 = some res) : Met l yX4_putWire wsX4_putWire ({ frames := 0, cells := 0, slots := 0, locals := 0 }) (mP D (tysX cI cZ) [.ref (A 0), .int x1, .int x2, .int x3] (wX4 cI cZ A cw) sz) (mQv D (wX4 cI cZ A cw) (wX4 cI cZ A res) sz) 0 0 (va_A (wX4 cI cZ A cw) sz) := by
  refine mkM_v (cc := cX4_putWire) (maxL := 4) (own := RX4) (by decide +kernel) rfl rfl (Nat.le_of_ble_eq_true rfl) ?_
  intro p e s m args below meth c A0 Q S hK hG hA hR
  obtain ⟨hx, hb, hml, hown, hts⟩ := id S
  have k9 := hts (.fieldLink RX4 9 "SwitchFloor$Wiring" "peer" "[I") (by decide +kernel)
  have iX4 : ∀ w ∈ wsX40, w ∈ wsX4_putWire := by decide +kernel
  have k15 := hts (.fieldLink RX4 15 "SwitchFloor$Wiring" "cost" "[I") (by decide +kernel)
  have k30 := hts (.fieldLink RX4 30 "SwitchFloor$Wiring" "wires" "I") (by decide +kernel)
  intro H locs hP hD hS ls hl
  have hl : lv_has ls 4 [(0, .ref (A 0)), (1, .int x1), (2, .int x2), (3, .int x3)] := hl
  unfold fX4_putWire at hf
  refine lv_aload_n hx hb dX4_putWire_0 rfl (lv_at hl 0 rfl) ?_
  refine ld_f S iX4 hK hP 0 0 (.ref (A 1)) (gX4_0 _ _ _ _) rfl (by decide) k9 rfl rfl dX4_putWire_1 ?_
  refine lv_iload_n hx hb dX4_putWire_4 rfl (lv_at hl 1 rfl) ?_
  refine lv_iload_n hx hb dX4_putWire_5 rfl (lv_at hl 2 rfl) ?_
  obtain ⟨c6, hf⟩ := ck_t hf
  refine st_i hx hb hK hP hD hS 1 0 (sX4_1 _ _ _ _ _ _) (gX4_1 _ _ _ _) rfl c6 dX4_putWire_6 (fun H locs hP hD hS => ?_)
  refine lv_aload_n hx hb dX4_putWire_7 rfl (lv_at hl 0 rfl) ?_
  refine ld_f S iX4 hK hP 0 0 (.ref (A 1)) (gX4_0 _ _ _ _) rfl (by decide) k9 rfl rfl dX4_putWire_8 ?_
  refine lv_iload_n hx hb dX4_putWire_11 rfl (lv_at hl 2 rfl) ?_
  refine lv_iload_n hx hb dX4_putWire_12 rfl (lv_at hl 1 rfl) ?_
  obtain ⟨c13, hf⟩ := ck_t hf
  refine st_i hx hb hK hP hD hS 1 0 (sX4_1 _ _ _ _ _ _) (gX4_1 _ _ _ _) rfl c13 dX4_putWire_13 (fun H locs hP hD hS => ?_)
  refine lv_aload_n hx hb dX4_putWire_14 rfl (lv_at hl 0 rfl) ?_
  refine ld_f S iX4 hK hP 0 1 (.ref (A 2)) (gX4_0 _ _ _ _) rfl (by decide) k15 rfl rfl dX4_putWire_15 ?_
  refine lv_iload_n hx hb dX4_putWire_18 rfl (lv_at hl 1 rfl) ?_
  refine lv_iload_n hx hb dX4_putWire_19 rfl (lv_at hl 3 rfl) ?_
  obtain ⟨c20, hf⟩ := ck_t hf
  refine st_i hx hb hK hP hD hS 2 0 (sX4_2 _ _ _ _ _ _) (gX4_2 _ _ _ _) rfl c20 dX4_putWire_20 (fun H locs hP hD hS => ?_)
  refine lv_aload_n hx hb dX4_putWire_21 rfl (lv_at hl 0 rfl) ?_
  refine ld_f S iX4 hK hP 0 1 (.ref (A 2)) (gX4_0 _ _ _ _) rfl (by decide) k15 rfl rfl dX4_putWire_22 ?_
  refine lv_iload_n hx hb dX4_putWire_25 rfl (lv_at hl 2 rfl) ?_
  refine lv_iload_n hx hb dX4_putWire_26 rfl (lv_at hl 3 rfl) ?_
  obtain ⟨c27, hf⟩ := ck_t hf
  refine st_i hx hb hK hP hD hS 2 0 (sX4_2 _ _ _ _ _ _) (gX4_2 _ _ _ _) rfl c27 dX4_putWire_27 (fun H locs hP hD hS => ?_)
  refine lv_aload_n hx hb dX4_putWire_28 rfl (lv_at hl 0 rfl) ?_
  refine lv_dup hx hb dX4_putWire_29 rfl ?_
  refine ld_f S iX4 hK hP 0 6 (.int (cw 6 0)) (gX4_0 _ _ _ _) rfl (by decide) k30 rfl rfl dX4_putWire_30 ?_
  refine lv_iconst (v := 1) hx hb dX4_putWire_33 (by decide) ?_
  refine lv_iadd hx hb dX4_putWire_34 ?_
  refine st_f S iX4 tyX4 tyX4_ok nmX4 hK hP hD hS 0 6 (sX4_0_6 _ _ _ _ _) (gX4_0 _ _ _ _) rfl (by decide) k30 rfl rfl (by decide +kernel) rfl dX4_putWire_35 (fun H locs hP hD hS => ?_)
  exact hR _ ls H locs _ (congrArg (fun q => (wX4 cI cZ A q)) (Option.some.inj hf)) dX4_putWire_38 hP hD hS
set_option maxHeartbeats 4000000 in
set_option maxRecDepth 100000 in
theorem mX3_close (l : Launch) (D : va_G) (cI cZ : ClassId) (A : Nat → Nat)  (ct : St) (cw : St) (x1 : Int32) (sz : Nat) (res : St) (hf : fX3_close ct x1 = some res) : Met l yX3_close wsX3_close ({ frames := 0, cells := 0, slots := 0, locals := 0 }) (mP D (tysX cI cZ) [.ref (A 0), .int x1] (wX3 cI cZ A ct cw) sz) (mQv D (wX3 cI cZ A ct cw) (wX3 cI cZ A res cw) sz) 0 0 (va_A (wX3 cI cZ A ct cw) sz) := by
  refine mkM_v (cc := cX3_close) (maxL := 2) (own := RX3) (by decide +kernel) rfl rfl (Nat.le_of_ble_eq_true rfl) ?_
  intro p e s m args below meth c A0 Q S hK hG hA hR
  obtain ⟨hx, hb, hml, hown, hts⟩ := id S
  have k27 := hts (.fieldLink RX3 27 "SwitchFloor$Tree" "open" "[Z") (by decide +kernel)
  have iX3 : ∀ w ∈ wsX30, w ∈ wsX3_close := by decide +kernel
  have k31 := hts (.fieldLink RX3 31 "SwitchFloor$Tree" "role" "[I") (by decide +kernel)
  have k34 := hts (.fieldLink RX3 34 "SwitchFloor$Tree" "waited" "[I") (by decide +kernel)
  intro H locs hP hD hS ls hl
  have hl : lv_has ls 2 [(0, .ref (A 0)), (1, .int x1)] := hl
  unfold fX3_close at hf
  refine lv_aload_n hx hb dX3_close_0 rfl (lv_at hl 0 rfl) ?_
  refine ld_f S iX3 hK hP 0 6 (.ref (A 6)) (gX3_0 _ _ _ _ _) rfl (by decide) k27 rfl rfl dX3_close_1 ?_
  refine lv_iload_n hx hb dX3_close_4 rfl (lv_at hl 1 rfl) ?_
  refine lv_iconst (v := 0) hx hb dX3_close_5 (by decide) ?_
  obtain ⟨c6, hf⟩ := ck_t hf
  refine st_z hx hb hK hP hD hS 6 1 (sX3_6 _ _ _ _ _ _ _) (gX3_6 _ _ _ _ _) rfl c6 dX3_close_6 (fun H locs hP hD hS => ?_)
  refine lv_aload_n hx hb dX3_close_7 rfl (lv_at hl 0 rfl) ?_
  refine ld_f S iX3 hK hP 0 7 (.ref (A 7)) (gX3_0 _ _ _ _ _) rfl (by decide) k31 rfl rfl dX3_close_8 ?_
  refine lv_iload_n hx hb dX3_close_11 rfl (lv_at hl 1 rfl) ?_
  refine lv_iconst (v := 0) hx hb dX3_close_12 (by decide) ?_
  obtain ⟨c13, hf⟩ := ck_t hf
  refine st_i hx hb hK hP hD hS 7 0 (sX3_7 _ _ _ _ _ _ _) (gX3_7 _ _ _ _ _) rfl c13 dX3_close_13 (fun H locs hP hD hS => ?_)
  refine lv_aload_n hx hb dX3_close_14 rfl (lv_at hl 0 rfl) ?_
  refine ld_f S iX3 hK hP 0 8 (.ref (A 8)) (gX3_0 _ _ _ _ _) rfl (by decide) k34 rfl rfl dX3_close_15 ?_
  refine lv_iload_n hx hb dX3_close_18 rfl (lv_at hl 1 rfl) ?_
  refine lv_iconst (v := 0) hx hb dX3_close_19 (by decide) ?_
  obtain ⟨c20, hf⟩ := ck_t hf
  refine st_i hx hb hK hP hD hS 8 0 (sX3_8 _ _ _ _ _ _ _) (gX3_8 _ _ _ _ _) rfl c20 dX3_close_20 (fun H locs hP hD hS => ?_)
  exact hR _ ls H locs _ (congrArg (fun q => (wX3 cI cZ A q cw)) (Option.some.inj hf)) dX3_close_21 hP hD hS
set_option maxHeartbeats 4000000 in
set_option maxRecDepth 100000 in
theorem mX2_drop (l : Launch) (D : va_G) (cI cZ : ClassId) (A : Nat → Nat)  (cb : St) (x1 : Int32) (sz : Nat) (res : St) (hf : fX2_drop cb x1 = some res) : Met l yX2_drop wsX2_drop ({ frames := 0, cells := 0, slots := 0, locals := 0 }) (mP D (tysX cI cZ) [.ref (A 0), .int x1] (wX2 cI cZ A cb) sz) (mQv D (wX2 cI cZ A cb) (wX2 cI cZ A res) sz) 0 0 (va_A (wX2 cI cZ A cb) sz) := by
  refine mkM_v (cc := cX2_drop) (maxL := 2) (own := RX2) (by decide +kernel) rfl rfl (Nat.le_of_ble_eq_true rfl) ?_
  intro p e s m args below meth c A0 Q S hK hG hA hR
  obtain ⟨hx, hb, hml, hown, hts⟩ := id S
  have k11 := hts (.fieldLink RX2 11 "SwitchFloor$Tables" "heardBy" "[I") (by decide +kernel)
  have iX2 : ∀ w ∈ wsX20, w ∈ wsX2_drop := by decide +kernel
  have k18 := hts (.fieldLink RX2 18 "SwitchFloor$Tables" "entries" "[I") (by decide +kernel)
  intro H locs hP hD hS ls hl
  have hl : lv_has ls 2 [(0, .ref (A 0)), (1, .int x1)] := hl
  unfold fX2_drop at hf
  refine lv_aload_n hx hb dX2_drop_0 rfl (lv_at hl 0 rfl) ?_
  refine ld_f S iX2 hK hP 0 0 (.ref (A 1)) (gX2_0 _ _ _ _) rfl (by decide) k11 rfl rfl dX2_drop_1 ?_
  refine lv_iload_n hx hb dX2_drop_4 rfl (lv_at hl 1 rfl) ?_
  refine lv_iconst (v := (-1)) hx hb dX2_drop_5 (by decide) ?_
  obtain ⟨c6, hf⟩ := ck_t hf
  refine st_i hx hb hK hP hD hS 1 0 (sX2_1 _ _ _ _ _ _) (gX2_1 _ _ _ _) rfl c6 dX2_drop_6 (fun H locs hP hD hS => ?_)
  refine lv_aload_n hx hb dX2_drop_7 rfl (lv_at hl 0 rfl) ?_
  refine ld_f S iX2 hK hP 0 2 (.ref (A 3)) (gX2_0 _ _ _ _) rfl (by decide) k18 rfl rfl dX2_drop_8 ?_
  refine lv_iload_n hx hb dX2_drop_11 rfl (lv_at hl 1 rfl) ?_
  refine lv_bipush (v := 30) hx hb dX2_drop_12 (by decide) ?_
  refine lv_idiv hx hb dX2_drop_14 (by decide) ?_
  refine lv_dup2_11 hx hb dX2_drop_15 rfl rfl ?_
  obtain ⟨c16, hf⟩ := ck_t hf
  refine va_iald (f := cb 2) hx hb hK hP 3 0 (gX2_3 _ _ _ _) rfl (inb_in c16) dX2_drop_16 ?_
  refine lv_iconst (v := 1) hx hb dX2_drop_17 (by decide) ?_
  refine lv_isub hx hb dX2_drop_18 ?_
  obtain ⟨c19, hf⟩ := ck_t hf
  refine st_i hx hb hK hP hD hS 3 0 (sX2_3 _ _ _ _ _ _) (gX2_3 _ _ _ _) rfl c19 dX2_drop_19 (fun H locs hP hD hS => ?_)
  exact hR _ ls H locs _ (congrArg (fun q => (wX2 cI cZ A q)) (Option.some.inj hf)) dX2_drop_20 hP hD hS
set_option maxHeartbeats 4000000 in
set_option maxRecDepth 100000 in
theorem mX2_forgetPort (l : Launch) (D : va_G) (cI cZ : ClassId) (A : Nat → Nat)  (cb : St) (x1 : Int32) (sz : Nat) (res : St) (hf : fX2_forgetPort cb x1 = some res) : Met l yX2_forgetPort wsX2_forgetPort ({ frames := 1, cells := 0, slots := 0, locals := 21 }) (mP D (tysX cI cZ) [.ref (A 0), .int x1] (wX2 cI cZ A cb) sz) (mQv D (wX2 cI cZ A cb) (wX2 cI cZ A res) sz) 0 0 (va_A (wX2 cI cZ A cb) sz) := by
  refine mkM_v (cc := cX2_forgetPort) (maxL := 4) (own := RX2) (by decide +kernel) rfl rfl (Nat.le_of_ble_eq_true rfl) ?_
  intro p e s m args below meth c A0 Q S hK hG hA hR
  obtain ⟨hx, hb, hml, hown, hts⟩ := id S
  have k11 := hts (.fieldLink RX2 11 "SwitchFloor$Tables" "heardBy" "[I") (by decide +kernel)
  have iX2 : ∀ w ∈ wsX20, w ∈ wsX2_forgetPort := by decide +kernel
  have B9 : ∀ (x1 : Int32) (x2 : Int32) (cb : St) (x3 : Int32), fX2_forgetPort_L9 x1 x2 cb x3 = some res → Bk p l e ({ frames := 1, cells := 0, slots := 0, locals := 21 }) s m args below meth c Q A0 D 4 0 0 (wX2 cI cZ A cb) [(0, .ref (A 0)), (1, .int x1), (2, .int x2), (3, .int x3)] 9 [] := by
    intro x1 x2 cb x3 hf
    refine loop_ind (step := (fun k a => fX2_forgetPort_S9 k x1 x2 (a.1) (a.2))) (fun a => Bk p l e ({ frames := 1, cells := 0, slots := 0, locals := 21 }) s m args below meth c Q A0 D 4 0 0 (wX2 cI cZ A (a.1)) [(0, .ref (A 0)), (1, .int x1), (2, .int x2), (3, .int (a.2))] 9 []) ?_ _ _ hf
    clear hf
    intro k9 hk9 a hf
    obtain ⟨cb_, x3_⟩ := a
    clear cb x3
    obtain ⟨cb, e_⟩ : ∃ z, z = cb_ := ⟨_, rfl⟩
    subst e_
    obtain ⟨x3, e_⟩ : ∃ z, z = x3_ := ⟨_, rfl⟩
    subst e_
    have hf : fX2_forgetPort_S9 k9 x1 x2 cb x3 = some res := hf
    show Bk p l e ({ frames := 1, cells := 0, slots := 0, locals := 21 }) s m args below meth c Q A0 D 4 0 0 (wX2 cI cZ A cb) [(0, .ref (A 0)), (1, .int x1), (2, .int x2), (3, .int x3)] 9 []
    unfold fX2_forgetPort_S9 at hf
    intro H locs hP hD hS ls hl
    refine lv_iload_n hx hb dX2_forgetPort_9 rfl (lv_at hl 3 rfl) ?_
    refine lv_iload_n hx hb dX2_forgetPort_10 rfl (lv_at hl 2 rfl) ?_
    refine lv_bipush (v := 30) hx hb dX2_forgetPort_11 (by decide) ?_
    refine lv_iadd hx hb dX2_forgetPort_13 ?_
    refine lv_icmp_ge (tgt := 40) hx hb dX2_forgetPort_14 (by decide) (fun c14 => ?_) (fun c14 => ?_)
    · have hf := if_t c14 hf
      exact hR _ ls H locs _ (congrArg (fun q => (wX2 cI cZ A q)) (Option.some.inj hf)) dX2_forgetPort_40 hP hD hS
    · have hf := if_f c14 hf
      refine lv_aload_n hx hb dX2_forgetPort_17 rfl (lv_at hl 0 rfl) ?_
      refine ld_f S iX2 hK hP 0 0 (.ref (A 1)) (gX2_0 _ _ _ _) rfl (by decide) k11 rfl rfl dX2_forgetPort_18 ?_
      refine lv_iload_n hx hb dX2_forgetPort_21 rfl (lv_at hl 3 rfl) ?_
      obtain ⟨c22, hf⟩ := ck_t hf
      refine va_iald (f := cb 0) hx hb hK hP 1 0 (gX2_1 _ _ _ _) rfl (inb_in c22) dX2_forgetPort_22 ?_
      refine lv_iload_n hx hb dX2_forgetPort_23 rfl (lv_at hl 1 rfl) ?_
      refine lv_iconst (v := 5) hx hb dX2_forgetPort_24 (by decide) ?_
      refine lv_irem hx hb dX2_forgetPort_25 (by decide) ?_
      refine lv_icmp_ne (tgt := 34) hx hb dX2_forgetPort_26 (by decide) (fun c26 => ?_) (fun c26 => ?_)
      · have hf := if_f c26 hf
        refine lv_iinc (v := x3 + 1) (lv' := [(3, .int (x3 + 1)), (0, .ref (A 0)), (1, .int x1), (2, .int x2)]) hx hb dX2_forgetPort_34 hl (k := 3) rfl rfl (by decide) rfl (fun ls hl => ?_)
        refine lv_goto (tgt := 9) hx hb dX2_forgetPort_37 (by decide) ?_
        exact hk9 _ hf H locs hP hD hS ls (lv_sub hl [1, 2, 3, 0] rfl)
      · have hf := if_t c26 hf
        refine lv_aload_n hx hb dX2_forgetPort_29 rfl (lv_at hl 0 rfl) ?_
        refine lv_iload_n hx hb dX2_forgetPort_30 rfl (lv_at hl 3 rfl) ?_
        obtain ⟨q31, h31, hf⟩ := bd_t hf
        refine cl_v (va_runV (As := [.int x3]) (rest := []) S (mX2_drop l D cI cZ A cb x3 H.size q31 h31) (cwV 1 hts gX2_forgetPort_X2_drop rfl rfl rfl (by decide +kernel) ⟨Nat.le_of_ble_eq_true rfl, Nat.le_of_ble_eq_true rfl⟩) (mP_V (ci := 2) (Cut.self _ []) hP hD hK hG rfl (gX2_0 _ _ _ _)) rfl rfl hl.1 rfl (lv_room (Nat.le_of_ble_eq_true rfl)) dX2_forgetPort_31 ⟨Nat.le_refl _, Nat.le_refl _⟩) (Cut.self _ _) hP hD hS hA (fun H locs hP hD hS => ?_)
        refine lv_iinc (v := x3 + 1) (lv' := [(3, .int (x3 + 1)), (0, .ref (A 0)), (1, .int x1), (2, .int x2)]) hx hb dX2_forgetPort_34 hl (k := 3) rfl rfl (by decide) rfl (fun ls hl => ?_)
        refine lv_goto (tgt := 9) hx hb dX2_forgetPort_37 (by decide) ?_
        exact hk9 _ hf H locs hP hD hS ls (lv_sub hl [1, 2, 3, 0] rfl)
  intro H locs hP hD hS ls hl
  have hl : lv_has ls 4 [(0, .ref (A 0)), (1, .int x1)] := hl
  unfold fX2_forgetPort at hf
  refine lv_iload_n hx hb dX2_forgetPort_0 rfl (lv_at hl 1 rfl) ?_
  refine lv_iconst (v := 5) hx hb dX2_forgetPort_1 (by decide) ?_
  refine lv_idiv hx hb dX2_forgetPort_2 (by decide) ?_
  refine lv_bipush (v := 30) hx hb dX2_forgetPort_3 (by decide) ?_
  refine lv_imul hx hb dX2_forgetPort_5 ?_
  refine lv_istore_n (lv' := [(2, .int ((x1 / 5) * 30)), (0, .ref (A 0)), (1, .int x1)]) hx hb dX2_forgetPort_6 rfl hl (by decide) rfl (fun ls hl => ?_)
  refine lv_iload_n hx hb dX2_forgetPort_7 rfl (lv_at hl 0 rfl) ?_
  refine lv_istore_n (lv' := [(3, .int ((x1 / 5) * 30)), (2, .int ((x1 / 5) * 30)), (0, .ref (A 0)), (1, .int x1)]) hx hb dX2_forgetPort_8 rfl hl (by decide) rfl (fun ls hl => ?_)
  exact B9 _ _ _ _ hf H locs hP hD hS ls (lv_sub hl [2, 3, 1, 0] rfl)
set_option maxHeartbeats 4000000 in
set_option maxRecDepth 100000 in
theorem mX4_takeWire (l : Launch) (D : va_G) (cI cZ : ClassId) (A : Nat → Nat)  (cw : St) (x1 : Int32) (x2 : Int32) (sz : Nat) (res : St) (hf : fX4_takeWire cw x1 x2 = some res) : Met l yX4_takeWire wsX4_takeWire ({ frames := 0, cells := 0, slots := 0, locals := 0 }) (mP D (tysX cI cZ) [.ref (A 0), .int x1, .int x2] (wX4 cI cZ A cw) sz) (mQv D (wX4 cI cZ A cw) (wX4 cI cZ A res) sz) 0 0 (va_A (wX4 cI cZ A cw) sz) := by
  refine mkM_v (cc := cX4_takeWire) (maxL := 3) (own := RX4) (by decide +kernel) rfl rfl (Nat.le_of_ble_eq_true rfl) ?_
  intro p e s m args below meth c A0 Q S hK hG hA hR
  obtain ⟨hx, hb, hml, hown, hts⟩ := id S
  have k9 := hts (.fieldLink RX4 9 "SwitchFloor$Wiring" "peer" "[I") (by decide +kernel)
  have iX4 : ∀ w ∈ wsX40, w ∈ wsX4_takeWire := by decide +kernel
  have k30 := hts (.fieldLink RX4 30 "SwitchFloor$Wiring" "wires" "I") (by decide +kernel)
  intro H locs hP hD hS ls hl
  have hl : lv_has ls 3 [(0, .ref (A 0)), (1, .int x1), (2, .int x2)] := hl
  unfold fX4_takeWire at hf
  refine lv_aload_n hx hb dX4_takeWire_0 rfl (lv_at hl 0 rfl) ?_
  refine ld_f S iX4 hK hP 0 0 (.ref (A 1)) (gX4_0 _ _ _ _) rfl (by decide) k9 rfl rfl dX4_takeWire_1 ?_
  refine lv_iload_n hx hb dX4_takeWire_4 rfl (lv_at hl 1 rfl) ?_
  refine lv_iconst (v := (-1)) hx hb dX4_takeWire_5 (by decide) ?_
  obtain ⟨c6, hf⟩ := ck_t hf
  refine st_i hx hb hK hP hD hS 1 0 (sX4_1 _ _ _ _ _ _) (gX4_1 _ _ _ _) rfl c6 dX4_takeWire_6 (fun H locs hP hD hS => ?_)
  refine lv_aload_n hx hb dX4_takeWire_7 rfl (lv_at hl 0 rfl) ?_
  refine ld_f S iX4 hK hP 0 0 (.ref (A 1)) (gX4_0 _ _ _ _) rfl (by decide) k9 rfl rfl dX4_takeWire_8 ?_
  refine lv_iload_n hx hb dX4_takeWire_11 rfl (lv_at hl 2 rfl) ?_
  refine lv_iconst (v := (-1)) hx hb dX4_takeWire_12 (by decide) ?_
  obtain ⟨c13, hf⟩ := ck_t hf
  refine st_i hx hb hK hP hD hS 1 0 (sX4_1 _ _ _ _ _ _) (gX4_1 _ _ _ _) rfl c13 dX4_takeWire_13 (fun H locs hP hD hS => ?_)
  refine lv_aload_n hx hb dX4_takeWire_14 rfl (lv_at hl 0 rfl) ?_
  refine lv_dup hx hb dX4_takeWire_15 rfl ?_
  refine ld_f S iX4 hK hP 0 6 (.int (cw 6 0)) (gX4_0 _ _ _ _) rfl (by decide) k30 rfl rfl dX4_takeWire_16 ?_
  refine lv_iconst (v := 1) hx hb dX4_takeWire_19 (by decide) ?_
  refine lv_isub hx hb dX4_takeWire_20 ?_
  refine st_f S iX4 tyX4 tyX4_ok nmX4 hK hP hD hS 0 6 (sX4_0_6 _ _ _ _ _) (gX4_0 _ _ _ _) rfl (by decide) k30 rfl rfl (by decide +kernel) rfl dX4_takeWire_21 (fun H locs hP hD hS => ?_)
  exact hR _ ls H locs _ (congrArg (fun q => (wX4 cI cZ A q)) (Option.some.inj hf)) dX4_takeWire_24 hP hD hS
set_option maxHeartbeats 4000000 in
set_option maxRecDepth 100000 in
theorem mX4_takeHouse (l : Launch) (D : va_G) (cI cZ : ClassId) (A : Nat → Nat)  (cw : St) (x1 : Int32) (sz : Nat) (res : Int32 × St) (hf : fX4_takeHouse cw x1 = some res) : Met l yX4_takeHouse wsX4_takeHouse ({ frames := 0, cells := 0, slots := 0, locals := 0 }) (mP D (tysX cI cZ) [.ref (A 0), .int x1] (wX4 cI cZ A cw) sz) (mQi D res.1 (wX4 cI cZ A cw) (wX4 cI cZ A (res.2)) sz) 0 0 (va_A (wX4 cI cZ A cw) sz) := by
  refine mkM_i (cc := cX4_takeHouse) (maxL := 3) (own := RX4) (by decide +kernel) rfl rfl (Nat.le_of_ble_eq_true rfl) ?_
  intro p e s m args below meth c A0 Q S hK hG hA hR
  obtain ⟨hx, hb, hml, hown, hts⟩ := id S
  have k18 := hts (.fieldLink RX4 18 "SwitchFloor$Wiring" "house" "[I") (by decide +kernel)
  have iX4 : ∀ w ∈ wsX40, w ∈ wsX4_takeHouse := by decide +kernel
  have k24 := hts (.fieldLink RX4 24 "SwitchFloor$Wiring" "spotOfHouse" "[I") (by decide +kernel)
  have k34 := hts (.fieldLink RX4 34 "SwitchFloor$Wiring" "houses" "I") (by decide +kernel)
  intro H locs hP hD hS ls hl
  have hl : lv_has ls 3 [(0, .ref (A 0)), (1, .int x1)] := hl
  unfold fX4_takeHouse at hf
  refine lv_aload_n hx hb dX4_takeHouse_0 rfl (lv_at hl 0 rfl) ?_
  refine ld_f S iX4 hK hP 0 2 (.ref (A 3)) (gX4_0 _ _ _ _) rfl (by decide) k18 rfl rfl dX4_takeHouse_1 ?_
  refine lv_iload_n hx hb dX4_takeHouse_4 rfl (lv_at hl 1 rfl) ?_
  obtain ⟨c5, hf⟩ := ck_t hf
  refine va_iald (f := cw 2) hx hb hK hP 3 0 (gX4_3 _ _ _ _) rfl (inb_in c5) dX4_takeHouse_5 ?_
  refine lv_istore_n (lv' := [(2, .int (cw 2 x1.toNatClampNeg)), (0, .ref (A 0)), (1, .int x1)]) hx hb dX4_takeHouse_6 rfl hl (by decide) rfl (fun ls hl => ?_)
  refine lv_aload_n hx hb dX4_takeHouse_7 rfl (lv_at hl 1 rfl) ?_
  refine ld_f S iX4 hK hP 0 2 (.ref (A 3)) (gX4_0 _ _ _ _) rfl (by decide) k18 rfl rfl dX4_takeHouse_8 ?_
  refine lv_iload_n hx hb dX4_takeHouse_11 rfl (lv_at hl 2 rfl) ?_
  refine lv_iconst (v := (-1)) hx hb dX4_takeHouse_12 (by decide) ?_
  obtain ⟨c13, hf⟩ := ck_t hf
  refine st_i hx hb hK hP hD hS 3 0 (sX4_3 _ _ _ _ _ _) (gX4_3 _ _ _ _) rfl c13 dX4_takeHouse_13 (fun H locs hP hD hS => ?_)
  refine lv_iload_n hx hb dX4_takeHouse_14 rfl (lv_at hl 0 rfl) ?_
  refine lv_iconst (v := (-1)) hx hb dX4_takeHouse_15 (by decide) ?_
  refine lv_icmp_eq (tgt := 36) hx hb dX4_takeHouse_16 (by decide) (fun c16 => ?_) (fun c16 => ?_)
  · have hf := if_t c16 hf
    refine lv_iload_n hx hb dX4_takeHouse_36 rfl (lv_at hl 0 rfl) ?_
    exact hR _ ls H locs _ _ (congrArg (fun q => q.1) (Option.some.inj hf)) (congrArg (fun q => (wX4 cI cZ A (q.2))) (Option.some.inj hf)) rfl dX4_takeHouse_37 hP hD hS
  · have hf := if_f c16 hf
    refine lv_aload_n hx hb dX4_takeHouse_19 rfl (lv_at hl 1 rfl) ?_
    refine ld_f S iX4 hK hP 0 4 (.ref (A 5)) (gX4_0 _ _ _ _) rfl (by decide) k24 rfl rfl dX4_takeHouse_20 ?_
    refine lv_iload_n hx hb dX4_takeHouse_23 rfl (lv_at hl 0 rfl) ?_
    refine lv_iconst (v := (-1)) hx hb dX4_takeHouse_24 (by decide) ?_
    obtain ⟨c25, hf⟩ := ck_t hf
    refine st_i hx hb hK hP hD hS 5 0 (sX4_5 _ _ _ _ _ _) (gX4_5 _ _ _ _) rfl c25 dX4_takeHouse_25 (fun H locs hP hD hS => ?_)
    refine lv_aload_n hx hb dX4_takeHouse_26 rfl (lv_at hl 1 rfl) ?_
    refine lv_dup hx hb dX4_takeHouse_27 rfl ?_
    refine ld_f S iX4 hK hP 0 7 (.int (cw 7 0)) (gX4_0 _ _ _ _) rfl (by decide) k34 rfl rfl dX4_takeHouse_28 ?_
    refine lv_iconst (v := 1) hx hb dX4_takeHouse_31 (by decide) ?_
    refine lv_isub hx hb dX4_takeHouse_32 ?_
    refine st_f S iX4 tyX4 tyX4_ok nmX4 hK hP hD hS 0 7 (sX4_0_7 _ _ _ _ _) (gX4_0 _ _ _ _) rfl (by decide) k34 rfl rfl (by decide +kernel) rfl dX4_takeHouse_33 (fun H locs hP hD hS => ?_)
    refine lv_iload_n hx hb dX4_takeHouse_36 rfl (lv_at hl 0 rfl) ?_
    exact hR _ ls H locs _ _ (congrArg (fun q => q.1) (Option.some.inj hf)) (congrArg (fun q => (wX4 cI cZ A (q.2))) (Option.some.inj hf)) rfl dX4_takeHouse_37 hP hD hS
set_option maxHeartbeats 4000000 in
set_option maxRecDepth 100000 in
theorem mX4_putHouse (l : Launch) (D : va_G) (cI cZ : ClassId) (A : Nat → Nat)  (cw : St) (x1 : Int32) (x2 : Int32) (sz : Nat) (res : St) (hf : fX4_putHouse cw x1 x2 = some res) : Met l yX4_putHouse wsX4_putHouse ({ frames := 0, cells := 0, slots := 0, locals := 0 }) (mP D (tysX cI cZ) [.ref (A 0), .int x1, .int x2] (wX4 cI cZ A cw) sz) (mQv D (wX4 cI cZ A cw) (wX4 cI cZ A res) sz) 0 0 (va_A (wX4 cI cZ A cw) sz) := by
  refine mkM_v (cc := cX4_putHouse) (maxL := 3) (own := RX4) (by decide +kernel) rfl rfl (Nat.le_of_ble_eq_true rfl) ?_
  intro p e s m args below meth c A0 Q S hK hG hA hR
  obtain ⟨hx, hb, hml, hown, hts⟩ := id S
  have k18 := hts (.fieldLink RX4 18 "SwitchFloor$Wiring" "house" "[I") (by decide +kernel)
  have iX4 : ∀ w ∈ wsX40, w ∈ wsX4_putHouse := by decide +kernel
  have k24 := hts (.fieldLink RX4 24 "SwitchFloor$Wiring" "spotOfHouse" "[I") (by decide +kernel)
  have k34 := hts (.fieldLink RX4 34 "SwitchFloor$Wiring" "houses" "I") (by decide +kernel)
  intro H locs hP hD hS ls hl
  have hl : lv_has ls 3 [(0, .ref (A 0)), (1, .int x1), (2, .int x2)] := hl
  unfold fX4_putHouse at hf
  refine lv_aload_n hx hb dX4_putHouse_0 rfl (lv_at hl 0 rfl) ?_
  refine ld_f S iX4 hK hP 0 2 (.ref (A 3)) (gX4_0 _ _ _ _) rfl (by decide) k18 rfl rfl dX4_putHouse_1 ?_
  refine lv_iload_n hx hb dX4_putHouse_4 rfl (lv_at hl 1 rfl) ?_
  refine lv_iload_n hx hb dX4_putHouse_5 rfl (lv_at hl 2 rfl) ?_
  obtain ⟨c6, hf⟩ := ck_t hf
  refine st_i hx hb hK hP hD hS 3 0 (sX4_3 _ _ _ _ _ _) (gX4_3 _ _ _ _) rfl c6 dX4_putHouse_6 (fun H locs hP hD hS => ?_)
  refine lv_aload_n hx hb dX4_putHouse_7 rfl (lv_at hl 0 rfl) ?_
  refine ld_f S iX4 hK hP 0 4 (.ref (A 5)) (gX4_0 _ _ _ _) rfl (by decide) k24 rfl rfl dX4_putHouse_8 ?_
  refine lv_iload_n hx hb dX4_putHouse_11 rfl (lv_at hl 2 rfl) ?_
  refine lv_iload_n hx hb dX4_putHouse_12 rfl (lv_at hl 1 rfl) ?_
  obtain ⟨c13, hf⟩ := ck_t hf
  refine st_i hx hb hK hP hD hS 5 0 (sX4_5 _ _ _ _ _ _) (gX4_5 _ _ _ _) rfl c13 dX4_putHouse_13 (fun H locs hP hD hS => ?_)
  refine lv_aload_n hx hb dX4_putHouse_14 rfl (lv_at hl 0 rfl) ?_
  refine lv_dup hx hb dX4_putHouse_15 rfl ?_
  refine ld_f S iX4 hK hP 0 7 (.int (cw 7 0)) (gX4_0 _ _ _ _) rfl (by decide) k34 rfl rfl dX4_putHouse_16 ?_
  refine lv_iconst (v := 1) hx hb dX4_putHouse_19 (by decide) ?_
  refine lv_iadd hx hb dX4_putHouse_20 ?_
  refine st_f S iX4 tyX4 tyX4_ok nmX4 hK hP hD hS 0 7 (sX4_0_7 _ _ _ _ _) (gX4_0 _ _ _ _) rfl (by decide) k34 rfl rfl (by decide +kernel) rfl dX4_putHouse_21 (fun H locs hP hD hS => ?_)
  exact hR _ ls H locs _ (congrArg (fun q => (wX4 cI cZ A q)) (Option.some.inj hf)) dX4_putHouse_24 hP hD hS
set_option maxHeartbeats 4000000 in
set_option maxRecDepth 100000 in
theorem mX3_isShut (l : Launch) (D : va_G) (cI cZ : ClassId) (A : Nat → Nat)  (ct : St) (cw : St) (x1 : Int32) (sz : Nat) (res : Int32) (hf : fX3_isShut ct x1 = some res) : Met l yX3_isShut wsX3_isShut ({ frames := 0, cells := 0, slots := 0, locals := 0 }) (mP D (tysX cI cZ) [.ref (A 0), .int x1] (wX3 cI cZ A ct cw) sz) (mQi D res (wX3 cI cZ A ct cw) (wX3 cI cZ A ct cw) sz) 0 0 (va_A (wX3 cI cZ A ct cw) sz) := by
  refine mkM_i (cc := cX3_isShut) (maxL := 2) (own := RX3) (by decide +kernel) rfl rfl (Nat.le_of_ble_eq_true rfl) ?_
  intro p e s m args below meth c A0 Q S hK hG hA hR
  obtain ⟨hx, hb, hml, hown, hts⟩ := id S
  have k24 := hts (.fieldLink RX3 24 "SwitchFloor$Tree" "shutTill" "[I") (by decide +kernel)
  have iX3 : ∀ w ∈ wsX30, w ∈ wsX3_isShut := by decide +kernel
  intro H locs hP hD hS ls hl
  have hl : lv_has ls 2 [(0, .ref (A 0)), (1, .int x1)] := hl
  unfold fX3_isShut at hf
  refine lv_aload_n hx hb dX3_isShut_0 rfl (lv_at hl 0 rfl) ?_
  refine ld_f S iX3 hK hP 0 5 (.ref (A 5)) (gX3_0 _ _ _ _ _) rfl (by decide) k24 rfl rfl dX3_isShut_1 ?_
  refine lv_iload_n hx hb dX3_isShut_4 rfl (lv_at hl 1 rfl) ?_
  obtain ⟨c5, hf⟩ := ck_t hf
  refine va_iald (f := ct 5) hx hb hK hP 5 0 (gX3_5 _ _ _ _ _) rfl (inb_in c5) dX3_isShut_5 ?_
  refine lv_if_eq (tgt := 13) hx hb dX3_isShut_6 (by decide) (fun c6 => ?_) (fun c6 => ?_)
  · have hf := if_t c6 hf
    refine lv_iconst (v := 0) hx hb dX3_isShut_13 (by decide) ?_
    exact hR _ ls H locs _ _ (congrArg (fun q => q) (Option.some.inj hf)) rfl (by decide) dX3_isShut_14 hP hD hS
  · have hf := if_f c6 hf
    refine lv_iconst (v := 1) hx hb dX3_isShut_9 (by decide) ?_
    refine lv_goto (tgt := 14) hx hb dX3_isShut_10 (by decide) ?_
    exact hR _ ls H locs _ _ (congrArg (fun q => q) (Option.some.inj hf)) rfl (by decide) dX3_isShut_14 hP hD hS
set_option maxHeartbeats 4000000 in
set_option maxRecDepth 100000 in
theorem mX3_openForHouse (l : Launch) (D : va_G) (cI cZ : ClassId) (A : Nat → Nat)  (ct : St) (cw : St) (x1 : Int32) (sz : Nat) (res : St) (hf : fX3_openForHouse ct cw x1 = some res) : Met l yX3_openForHouse wsX3_openForHouse ({ frames := 1, cells := 0, slots := 0, locals := 21 }) (mP D (tysX cI cZ) [.ref (A 0), .int x1] (wX3 cI cZ A ct cw) sz) (mQv D (wX3 cI cZ A ct cw) (wX3 cI cZ A res cw) sz) 0 0 (va_A (wX3 cI cZ A ct cw) sz) := by
  refine mkM_v (cc := cX3_openForHouse) (maxL := 2) (own := RX3) (by decide +kernel) rfl rfl (Nat.le_of_ble_eq_true rfl) ?_
  intro p e s m args below meth c A0 Q S hK hG hA hR
  obtain ⟨hx, hb, hml, hown, hts⟩ := id S
  have k27 := hts (.fieldLink RX3 27 "SwitchFloor$Tree" "open" "[Z") (by decide +kernel)
  have iX3 : ∀ w ∈ wsX30, w ∈ wsX3_openForHouse := by decide +kernel
  have k55 := hts (.fieldLink RX3 55 "SwitchFloor$Tree" "wiring" "LSwitchFloor$Wiring;") (by decide +kernel)
  have k72 := hts (.fieldLink RX3 72 "SwitchFloor$Wiring" "house" "[I") (by decide +kernel)
  have iX4 : ∀ w ∈ wsX40, w ∈ wsX3_openForHouse := by decide +kernel
  have B31 : ∀ (ct : St) (y0 : Int32) (y1 : Int32), fX3_openForHouse_J31 ct cw y0 y1 = some res → Bk p l e ({ frames := 1, cells := 0, slots := 0, locals := 21 }) s m args below meth c Q A0 D 2 0 0 (wX3 cI cZ A ct cw) [] 31 [.int y0, .int y1, .ref (A 6)] := by
    intro ct y0 y1 hf
    unfold fX3_openForHouse_J31 at hf
    intro H locs hP hD hS ls hl
    obtain ⟨c31, hf⟩ := ck_t hf
    refine st_z hx hb hK hP hD hS 6 1 (sX3_6 _ _ _ _ _ _ _) (gX3_6 _ _ _ _ _) rfl c31 dX3_openForHouse_31 (fun H locs hP hD hS => ?_)
    exact hR _ ls H locs _ (congrArg (fun q => (wX3 cI cZ A q cw)) (Option.some.inj hf)) dX3_openForHouse_32 hP hD hS
  have B30 : ∀ (ct : St) (y0 : Int32), fX3_openForHouse_J30 ct cw y0 = some res → Bk p l e ({ frames := 1, cells := 0, slots := 0, locals := 21 }) s m args below meth c Q A0 D 2 0 0 (wX3 cI cZ A ct cw) [] 30 [.int y0, .ref (A 6)] := by
    intro ct y0 hf
    unfold fX3_openForHouse_J30 at hf
    intro H locs hP hD hS ls hl
    refine lv_iconst (v := 0) hx hb dX3_openForHouse_30 (by decide) ?_
    exact B31 _ _ _ hf H locs hP hD hS ls (lv_sub hl [] rfl)
  intro H locs hP hD hS ls hl
  have hl : lv_has ls 2 [(0, .ref (A 0)), (1, .int x1)] := hl
  unfold fX3_openForHouse at hf
  refine lv_aload_n hx hb dX3_openForHouse_0 rfl (lv_at hl 0 rfl) ?_
  refine ld_f S iX3 hK hP 0 6 (.ref (A 6)) (gX3_0 _ _ _ _ _) rfl (by decide) k27 rfl rfl dX3_openForHouse_1 ?_
  refine lv_iload_n hx hb dX3_openForHouse_4 rfl (lv_at hl 1 rfl) ?_
  refine lv_aload_n hx hb dX3_openForHouse_5 rfl (lv_at hl 0 rfl) ?_
  refine lv_iload_n hx hb dX3_openForHouse_6 rfl (lv_at hl 1 rfl) ?_
  obtain ⟨q7, h7, hf⟩ := bd_t hf
  refine cl_i (va_runV (As := [.int x1]) (rest := [.int x1, .ref (A 6)]) S (mX3_isShut l D cI cZ A ct cw x1 H.size q7 h7) (cwV 1 hts gX3_openForHouse_X3_isShut rfl rfl rfl (by decide +kernel) ⟨Nat.le_of_ble_eq_true rfl, Nat.le_of_ble_eq_true rfl⟩) (mP_V (ci := 3) (Cut.self _ []) hP hD hK hG rfl (gX3_0 _ _ _ _ _)) rfl rfl hl.1 rfl (lv_room (Nat.le_of_ble_eq_true rfl)) dX3_openForHouse_7 ⟨Nat.le_refl _, Nat.le_refl _⟩) (Cut.self _ _) hP hD hS hA (fun H locs hP hD hS => ?_)
  refine lv_if_ne (tgt := 30) hx hb dX3_openForHouse_10 (by decide) (fun c10 => ?_) (fun c10 => ?_)
  · have hf := if_f c10 hf
    exact B30 _ _ hf H locs hP hD hS ls (lv_sub hl [] rfl)
  · have hf := if_t c10 hf
    refine lv_aload_n hx hb dX3_openForHouse_13 rfl (lv_at hl 0 rfl) ?_
    refine ld_f S iX3 hK hP 0 0 (.ref (A 15)) (gX3_0 _ _ _ _ _) rfl (by decide) k55 rfl rfl dX3_openForHouse_14 ?_
    refine ld_f S iX4 hK hP 15 2 (.ref (A 18)) (gX3_15 _ _ _ _ _) rfl (by decide) k72 rfl rfl dX3_openForHouse_17 ?_
    refine lv_iload_n hx hb dX3_openForHouse_20 rfl (lv_at hl 1 rfl) ?_
    obtain ⟨c21, hf⟩ := ck_t hf
    refine va_iald (f := cw 2) hx hb hK hP 18 0 (gX3_18 _ _ _ _ _) rfl (inb_in c21) dX3_openForHouse_21 ?_
    refine lv_iconst (v := (-1)) hx hb dX3_openForHouse_22 (by decide) ?_
    refine lv_icmp_eq (tgt := 30) hx hb dX3_openForHouse_23 (by decide) (fun c23 => ?_) (fun c23 => ?_)
    · have hf := if_t c23 hf
      exact B30 _ _ hf H locs hP hD hS ls (lv_sub hl [] rfl)
    · have hf := if_f c23 hf
      refine lv_iconst (v := 1) hx hb dX3_openForHouse_26 (by decide) ?_
      refine lv_goto (tgt := 31) hx hb dX3_openForHouse_27 (by decide) ?_
      exact B31 _ _ _ hf H locs hP hD hS ls (lv_sub hl [] rfl)
set_option maxHeartbeats 4000000 in
set_option maxRecDepth 100000 in
theorem mX3_beginShut (l : Launch) (D : va_G) (cI cZ : ClassId) (A : Nat → Nat)  (ct : St) (cw : St) (x1 : Int32) (x2 : Int32) (sz : Nat) (res : St) (hf : fX3_beginShut ct x1 x2 = some res) : Met l yX3_beginShut wsX3_beginShut ({ frames := 1, cells := 0, slots := 0, locals := 21 }) (mP D (tysX cI cZ) [.ref (A 0), .int x1, .int x2] (wX3 cI cZ A ct cw) sz) (mQv D (wX3 cI cZ A ct cw) (wX3 cI cZ A res cw) sz) 0 0 (va_A (wX3 cI cZ A ct cw) sz) := by
  refine mkM_v (cc := cX3_beginShut) (maxL := 3) (own := RX3) (by decide +kernel) rfl rfl (Nat.le_of_ble_eq_true rfl) ?_
  intro p e s m args below meth c A0 Q S hK hG hA hR
  obtain ⟨hx, hb, hml, hown, hts⟩ := id S
  have k24 := hts (.fieldLink RX3 24 "SwitchFloor$Tree" "shutTill" "[I") (by decide +kernel)
  have iX3 : ∀ w ∈ wsX30, w ∈ wsX3_beginShut := by decide +kernel
  intro H locs hP hD hS ls hl
  have hl : lv_has ls 3 [(0, .ref (A 0)), (1, .int x1), (2, .int x2)] := hl
  unfold fX3_beginShut at hf
  refine lv_aload_n hx hb dX3_beginShut_0 rfl (lv_at hl 0 rfl) ?_
  refine ld_f S iX3 hK hP 0 5 (.ref (A 5)) (gX3_0 _ _ _ _ _) rfl (by decide) k24 rfl rfl dX3_beginShut_1 ?_
  refine lv_iload_n hx hb dX3_beginShut_4 rfl (lv_at hl 1 rfl) ?_
  refine lv_iload_n hx hb dX3_beginShut_5 rfl (lv_at hl 2 rfl) ?_
  obtain ⟨c6, hf⟩ := ck_t hf
  refine st_i hx hb hK hP hD hS 5 0 (sX3_5 _ _ _ _ _ _ _) (gX3_5 _ _ _ _ _) rfl c6 dX3_beginShut_6 (fun H locs hP hD hS => ?_)
  refine lv_aload_n hx hb dX3_beginShut_7 rfl (lv_at hl 0 rfl) ?_
  refine lv_iload_n hx hb dX3_beginShut_8 rfl (lv_at hl 1 rfl) ?_
  obtain ⟨q9, h9, hf⟩ := bd_t hf
  refine cl_v (va_runV (As := [.int x1]) (rest := []) S (mX3_close l D cI cZ A (aS ct 5 x1 x2) cw x1 H.size q9 h9) (cwV 1 hts gX3_beginShut_X3_close rfl rfl rfl (by decide +kernel) ⟨Nat.le_of_ble_eq_true rfl, Nat.le_of_ble_eq_true rfl⟩) (mP_V (ci := 3) (Cut.self _ []) hP hD hK hG rfl (gX3_0 _ _ _ _ _)) rfl rfl hl.1 rfl (lv_room (Nat.le_of_ble_eq_true rfl)) dX3_beginShut_9 ⟨Nat.le_refl _, Nat.le_refl _⟩) (Cut.self _ _) hP hD hS hA (fun H locs hP hD hS => ?_)
  exact hR _ ls H locs _ (congrArg (fun q => (wX3 cI cZ A q cw)) (Option.some.inj hf)) dX3_beginShut_12 hP hD hS
set_option maxHeartbeats 4000000 in
set_option maxRecDepth 100000 in
theorem mX3_endShut (l : Launch) (D : va_G) (cI cZ : ClassId) (A : Nat → Nat)  (ct : St) (cw : St) (x1 : Int32) (sz : Nat) (res : St) (hf : fX3_endShut ct cw x1 = some res) : Met l yX3_endShut wsX3_endShut ({ frames := 2, cells := 0, slots := 0, locals := 42 }) (mP D (tysX cI cZ) [.ref (A 0), .int x1] (wX3 cI cZ A ct cw) sz) (mQv D (wX3 cI cZ A ct cw) (wX3 cI cZ A res cw) sz) 0 0 (va_A (wX3 cI cZ A ct cw) sz) := by
  refine mkM_v (cc := cX3_endShut) (maxL := 2) (own := RX3) (by decide +kernel) rfl rfl (Nat.le_of_ble_eq_true rfl) ?_
  intro p e s m args below meth c A0 Q S hK hG hA hR
  obtain ⟨hx, hb, hml, hown, hts⟩ := id S
  have k24 := hts (.fieldLink RX3 24 "SwitchFloor$Tree" "shutTill" "[I") (by decide +kernel)
  have iX3 : ∀ w ∈ wsX30, w ∈ wsX3_endShut := by decide +kernel
  intro H locs hP hD hS ls hl
  have hl : lv_has ls 2 [(0, .ref (A 0)), (1, .int x1)] := hl
  unfold fX3_endShut at hf
  refine lv_aload_n hx hb dX3_endShut_0 rfl (lv_at hl 0 rfl) ?_
  refine ld_f S iX3 hK hP 0 5 (.ref (A 5)) (gX3_0 _ _ _ _ _) rfl (by decide) k24 rfl rfl dX3_endShut_1 ?_
  refine lv_iload_n hx hb dX3_endShut_4 rfl (lv_at hl 1 rfl) ?_
  refine lv_iconst (v := 0) hx hb dX3_endShut_5 (by decide) ?_
  obtain ⟨c6, hf⟩ := ck_t hf
  refine st_i hx hb hK hP hD hS 5 0 (sX3_5 _ _ _ _ _ _ _) (gX3_5 _ _ _ _ _) rfl c6 dX3_endShut_6 (fun H locs hP hD hS => ?_)
  refine lv_aload_n hx hb dX3_endShut_7 rfl (lv_at hl 0 rfl) ?_
  refine lv_iload_n hx hb dX3_endShut_8 rfl (lv_at hl 1 rfl) ?_
  obtain ⟨q9, h9, hf⟩ := bd_t hf
  refine cl_v (va_runV (As := [.int x1]) (rest := []) S (mX3_openForHouse l D cI cZ A (aS ct 5 x1 0) cw x1 H.size q9 h9) (cwV 1 hts gX3_endShut_X3_openForHouse rfl rfl rfl (by decide +kernel) ⟨Nat.le_of_ble_eq_true rfl, Nat.le_of_ble_eq_true rfl⟩) (mP_V (ci := 3) (Cut.self _ []) hP hD hK hG rfl (gX3_0 _ _ _ _ _)) rfl rfl hl.1 rfl (lv_room (Nat.le_of_ble_eq_true rfl)) dX3_endShut_9 ⟨Nat.le_refl _, Nat.le_refl _⟩) (Cut.self _ _) hP hD hS hA (fun H locs hP hD hS => ?_)
  exact hR _ ls H locs _ (congrArg (fun q => (wX3 cI cZ A q cw)) (Option.some.inj hf)) dX3_endShut_12 hP hD hS
set_option maxHeartbeats 4000000 in
set_option maxRecDepth 100000 in
theorem mX0_bitOf (l : Launch) (D : va_G) (cI cZ : ClassId)  (x0 : Int32) (sz : Nat) (res : Int32) (hf : fX0_bitOf x0 = some res) : Met l yX0_bitOf wsX0_bitOf ({ frames := 0, cells := 0, slots := 0, locals := 0 }) (mP D (tysX cI cZ) [.int x0] [] sz) (mQi D res [] [] sz) 0 0 (va_A [] sz) := by
  refine mkM_i (cc := cX0_bitOf) (maxL := 1) (own := RX0) (by decide +kernel) rfl rfl (Nat.le_of_ble_eq_true rfl) ?_
  intro p e s m args below meth c A0 Q S hK hG hA hR
  obtain ⟨hx, hb, hml, hown, hts⟩ := id S
  intro H locs hP hD hS ls hl
  have hl : lv_has ls 1 [(0, .int x0)] := hl
  unfold fX0_bitOf at hf
  refine lv_iconst (v := 1) hx hb dX0_bitOf_0 (by decide) ?_
  refine lv_iload_n hx hb dX0_bitOf_1 rfl (lv_at hl 0 rfl) ?_
  refine lv_iconst (v := 1) hx hb dX0_bitOf_2 (by decide) ?_
  refine lv_isub hx hb dX0_bitOf_3 ?_
  refine lv_ishl hx hb dX0_bitOf_4 ?_
  exact hR _ ls H locs _ _ (congrArg (fun q => q) (Option.some.inj hf)) rfl rfl dX0_bitOf_5 hP hD hS
set_option maxHeartbeats 4000000 in
set_option maxRecDepth 100000 in
theorem mX0_setUp (l : Launch) (D : va_G) (cI cZ : ClassId) (A : Nat → Nat)  (cl : St) (x1 : Int32) (x2 : Int32) (x3 : Int32) (sz : Nat) (res : St) (hf : fX0_setUp cl x1 x2 x3 = some res) : Met l yX0_setUp wsX0_setUp ({ frames := 0, cells := 0, slots := 0, locals := 0 }) (mP D (tysX cI cZ) [.ref (A 0), .int x1, .int x2, .int x3] (wX0 cI cZ A cl) sz) (mQv D (wX0 cI cZ A cl) (wX0 cI cZ A res) sz) 0 0 (va_A (wX0 cI cZ A cl) sz) := by
  refine mkM_v (cc := cX0_setUp) (maxL := 4) (own := RX0) (by decide +kernel) rfl rfl (Nat.le_of_ble_eq_true rfl) ?_
  intro p e s m args below meth c A0 Q S hK hG hA hR
  obtain ⟨hx, hb, hml, hown, hts⟩ := id S
  have k9 := hts (.fieldLink RX0 9 "SwitchFloor$Lanes" "carried" "[I") (by decide +kernel)
  have iX0 : ∀ w ∈ wsX00, w ∈ wsX0_setUp := by decide +kernel
  have k15 := hts (.fieldLink RX0 15 "SwitchFloor$Lanes" "untagged" "[I") (by decide +kernel)
  intro H locs hP hD hS ls hl
  have hl : lv_has ls 4 [(0, .ref (A 0)), (1, .int x1), (2, .int x2), (3, .int x3)] := hl
  unfold fX0_setUp at hf
  refine lv_aload_n hx hb dX0_setUp_0 rfl (lv_at hl 0 rfl) ?_
  refine ld_f S iX0 hK hP 0 0 (.ref (A 1)) (gX0_0 _ _ _ _) rfl (by decide) k9 rfl rfl dX0_setUp_1 ?_
  refine lv_iload_n hx hb dX0_setUp_4 rfl (lv_at hl 1 rfl) ?_
  refine lv_iload_n hx hb dX0_setUp_5 rfl (lv_at hl 2 rfl) ?_
  obtain ⟨c6, hf⟩ := ck_t hf
  refine st_i hx hb hK hP hD hS 1 0 (sX0_1 _ _ _ _ _ _) (gX0_1 _ _ _ _) rfl c6 dX0_setUp_6 (fun H locs hP hD hS => ?_)
  refine lv_aload_n hx hb dX0_setUp_7 rfl (lv_at hl 0 rfl) ?_
  refine ld_f S iX0 hK hP 0 1 (.ref (A 2)) (gX0_0 _ _ _ _) rfl (by decide) k15 rfl rfl dX0_setUp_8 ?_
  refine lv_iload_n hx hb dX0_setUp_11 rfl (lv_at hl 1 rfl) ?_
  refine lv_iload_n hx hb dX0_setUp_12 rfl (lv_at hl 3 rfl) ?_
  obtain ⟨c13, hf⟩ := ck_t hf
  refine st_i hx hb hK hP hD hS 2 0 (sX0_2 _ _ _ _ _ _) (gX0_2 _ _ _ _) rfl c13 dX0_setUp_13 (fun H locs hP hD hS => ?_)
  exact hR _ ls H locs _ (congrArg (fun q => (wX0 cI cZ A q)) (Option.some.inj hf)) dX0_setUp_14 hP hD hS
set_option maxHeartbeats 4000000 in
set_option maxRecDepth 100000 in
theorem mX3_isJoined (l : Launch) (D : va_G) (cI cZ : ClassId) (A : Nat → Nat)  (ct : St) (cw : St) (x1 : Int32) (sz : Nat) (res : Int32) (hf : fX3_isJoined ct cw x1 = some res) : Met l yX3_isJoined wsX3_isJoined ({ frames := 1, cells := 0, slots := 0, locals := 21 }) (mP D (tysX cI cZ) [.ref (A 0), .int x1] (wX3 cI cZ A ct cw) sz) (mQi D res (wX3 cI cZ A ct cw) (wX3 cI cZ A ct cw) sz) 0 0 (va_A (wX3 cI cZ A ct cw) sz) := by
  refine mkM_i (cc := cX3_isJoined) (maxL := 3) (own := RX3) (by decide +kernel) rfl rfl (Nat.le_of_ble_eq_true rfl) ?_
  intro p e s m args below meth c A0 Q S hK hG hA hR
  obtain ⟨hx, hb, hml, hown, hts⟩ := id S
  have k55 := hts (.fieldLink RX3 55 "SwitchFloor$Tree" "wiring" "LSwitchFloor$Wiring;") (by decide +kernel)
  have iX3 : ∀ w ∈ wsX30, w ∈ wsX3_isJoined := by decide +kernel
  have k63 := hts (.fieldLink RX3 63 "SwitchFloor$Wiring" "peer" "[I") (by decide +kernel)
  have iX4 : ∀ w ∈ wsX40, w ∈ wsX3_isJoined := by decide +kernel
  intro H locs hP hD hS ls hl
  have hl : lv_has ls 3 [(0, .ref (A 0)), (1, .int x1)] := hl
  unfold fX3_isJoined at hf
  refine lv_aload_n hx hb dX3_isJoined_0 rfl (lv_at hl 0 rfl) ?_
  refine ld_f S iX3 hK hP 0 0 (.ref (A 15)) (gX3_0 _ _ _ _ _) rfl (by decide) k55 rfl rfl dX3_isJoined_1 ?_
  refine ld_f S iX4 hK hP 15 0 (.ref (A 16)) (gX3_15 _ _ _ _ _) rfl (by decide) k63 rfl rfl dX3_isJoined_4 ?_
  refine lv_iload_n hx hb dX3_isJoined_7 rfl (lv_at hl 1 rfl) ?_
  obtain ⟨c8, hf⟩ := ck_t hf
  refine va_iald (f := cw 0) hx hb hK hP 16 0 (gX3_16 _ _ _ _ _) rfl (inb_in c8) dX3_isJoined_8 ?_
  refine lv_istore_n (lv' := [(2, .int (cw 0 x1.toNatClampNeg)), (0, .ref (A 0)), (1, .int x1)]) hx hb dX3_isJoined_9 rfl hl (by decide) rfl (fun ls hl => ?_)
  refine lv_iload_n hx hb dX3_isJoined_10 rfl (lv_at hl 0 rfl) ?_
  refine lv_iconst (v := (-1)) hx hb dX3_isJoined_11 (by decide) ?_
  refine lv_icmp_eq (tgt := 35) hx hb dX3_isJoined_12 (by decide) (fun c12 => ?_) (fun c12 => ?_)
  · have hf := if_t c12 hf
    refine lv_iconst (v := 0) hx hb dX3_isJoined_35 (by decide) ?_
    exact hR _ ls H locs _ _ (congrArg (fun q => q) (Option.some.inj hf)) rfl (by decide) dX3_isJoined_36 hP hD hS
  · have hf := if_f c12 hf
    refine lv_aload_n hx hb dX3_isJoined_15 rfl (lv_at hl 1 rfl) ?_
    refine lv_iload_n hx hb dX3_isJoined_16 rfl (lv_at hl 2 rfl) ?_
    obtain ⟨q17, h17, hf⟩ := bd_t hf
    refine cl_i (va_runV (As := [.int x1]) (rest := []) S (mX3_isShut l D cI cZ A ct cw x1 H.size q17 h17) (cwV 1 hts gX3_isJoined_X3_isShut rfl rfl rfl (by decide +kernel) ⟨Nat.le_of_ble_eq_true rfl, Nat.le_of_ble_eq_true rfl⟩) (mP_V (ci := 3) (Cut.self _ []) hP hD hK hG rfl (gX3_0 _ _ _ _ _)) rfl rfl hl.1 rfl (lv_room (Nat.le_of_ble_eq_true rfl)) dX3_isJoined_17 ⟨Nat.le_refl _, Nat.le_refl _⟩) (Cut.self _ _) hP hD hS hA (fun H locs hP hD hS => ?_)
    refine lv_if_ne (tgt := 35) hx hb dX3_isJoined_20 (by decide) (fun c20 => ?_) (fun c20 => ?_)
    · have hf := if_f c20 hf
      refine lv_iconst (v := 0) hx hb dX3_isJoined_35 (by decide) ?_
      exact hR _ ls H locs _ _ (congrArg (fun q => q) (Option.some.inj hf)) rfl (by decide) dX3_isJoined_36 hP hD hS
    · have hf := if_t c20 hf
      refine lv_aload_n hx hb dX3_isJoined_23 rfl (lv_at hl 1 rfl) ?_
      refine lv_iload_n hx hb dX3_isJoined_24 rfl (lv_at hl 0 rfl) ?_
      obtain ⟨q25, h25, hf⟩ := bd_t hf
      refine cl_i (va_runV (As := [.int (cw 0 x1.toNatClampNeg)]) (rest := []) S (mX3_isShut l D cI cZ A ct cw (cw 0 x1.toNatClampNeg) H.size q25 h25) (cwV 1 hts gX3_isJoined_X3_isShut rfl rfl rfl (by decide +kernel) ⟨Nat.le_of_ble_eq_true rfl, Nat.le_of_ble_eq_true rfl⟩) (mP_V (ci := 3) (Cut.self _ []) hP hD hK hG rfl (gX3_0 _ _ _ _ _)) rfl rfl hl.1 rfl (lv_room (Nat.le_of_ble_eq_true rfl)) dX3_isJoined_25 ⟨Nat.le_refl _, Nat.le_refl _⟩) (Cut.self _ _) hP hD hS hA (fun H locs hP hD hS => ?_)
      refine lv_if_ne (tgt := 35) hx hb dX3_isJoined_28 (by decide) (fun c28 => ?_) (fun c28 => ?_)
      · have hf := if_f c28 hf
        refine lv_iconst (v := 0) hx hb dX3_isJoined_35 (by decide) ?_
        exact hR _ ls H locs _ _ (congrArg (fun q => q) (Option.some.inj hf)) rfl (by decide) dX3_isJoined_36 hP hD hS
      · have hf := if_t c28 hf
        refine lv_iconst (v := 1) hx hb dX3_isJoined_31 (by decide) ?_
        refine lv_goto (tgt := 36) hx hb dX3_isJoined_32 (by decide) ?_
        exact hR _ ls H locs _ _ (congrArg (fun q => q) (Option.some.inj hf)) rfl (by decide) dX3_isJoined_36 hP hD hS
set_option maxHeartbeats 4000000 in
set_option maxRecDepth 100000 in
theorem mX3_tell (l : Launch) (D : va_G) (cI cZ : ClassId) (A : Nat → Nat)  (ct : St) (cw : St) (sz : Nat) (res : St) (hf : fX3_tell ct cw = some res) : Met l yX3_tell wsX3_tell ({ frames := 2, cells := 0, slots := 0, locals := 43 }) (mP D (tysX cI cZ) [.ref (A 0)] (wX3 cI cZ A ct cw) sz) (mQv D (wX3 cI cZ A ct cw) (wX3 cI cZ A res cw) sz) 0 0 (va_A (wX3 cI cZ A ct cw) sz) := by
  refine mkM_v (cc := cX3_tell) (maxL := 3) (own := RX3) (by decide +kernel) rfl rfl (Nat.le_of_ble_eq_true rfl) ?_
  intro p e s m args below meth c A0 Q S hK hG hA hR
  obtain ⟨hx, hb, hml, hown, hts⟩ := id S
  have k37 := hts (.fieldLink RX3 37 "SwitchFloor$Tree" "toldRoot" "[I") (by decide +kernel)
  have iX3 : ∀ w ∈ wsX30, w ∈ wsX3_tell := by decide +kernel
  have k55 := hts (.fieldLink RX3 55 "SwitchFloor$Tree" "wiring" "LSwitchFloor$Wiring;") (by decide +kernel)
  have k63 := hts (.fieldLink RX3 63 "SwitchFloor$Wiring" "peer" "[I") (by decide +kernel)
  have iX4 : ∀ w ∈ wsX40, w ∈ wsX3_tell := by decide +kernel
  have k9 := hts (.fieldLink RX3 9 "SwitchFloor$Tree" "root" "[I") (by decide +kernel)
  have k40 := hts (.fieldLink RX3 40 "SwitchFloor$Tree" "toldCost" "[I") (by decide +kernel)
  have k15 := hts (.fieldLink RX3 15 "SwitchFloor$Tree" "cost" "[I") (by decide +kernel)
  have k43 := hts (.fieldLink RX3 43 "SwitchFloor$Tree" "toldHops" "[I") (by decide +kernel)
  have k18 := hts (.fieldLink RX3 18 "SwitchFloor$Tree" "hops" "[I") (by decide +kernel)
  have B2 : ∀ (ct : St) (x1 : Int32), fX3_tell_L2 cw ct x1 = some res → Bk p l e ({ frames := 2, cells := 0, slots := 0, locals := 43 }) s m args below meth c Q A0 D 3 0 0 (wX3 cI cZ A ct cw) [(0, .ref (A 0)), (1, .int x1)] 2 [] := by
    intro ct x1 hf
    refine loop_ind (step := (fun k a => fX3_tell_S2 k cw (a.1) (a.2))) (fun a => Bk p l e ({ frames := 2, cells := 0, slots := 0, locals := 43 }) s m args below meth c Q A0 D 3 0 0 (wX3 cI cZ A (a.1) cw) [(0, .ref (A 0)), (1, .int (a.2))] 2 []) ?_ _ _ hf
    clear hf
    intro k2 hk2 a hf
    obtain ⟨ct_, x1_⟩ := a
    clear ct x1
    obtain ⟨ct, e_⟩ : ∃ z, z = ct_ := ⟨_, rfl⟩
    subst e_
    obtain ⟨x1, e_⟩ : ∃ z, z = x1_ := ⟨_, rfl⟩
    subst e_
    have hf : fX3_tell_S2 k2 cw ct x1 = some res := hf
    show Bk p l e ({ frames := 2, cells := 0, slots := 0, locals := 43 }) s m args below meth c Q A0 D 3 0 0 (wX3 cI cZ A ct cw) [(0, .ref (A 0)), (1, .int x1)] 2 []
    unfold fX3_tell_S2 at hf
    intro H locs hP hD hS ls hl
    refine lv_iload_n hx hb dX3_tell_2 rfl (lv_at hl 1 rfl) ?_
    refine lv_bipush (v := 30) hx hb dX3_tell_3 (by decide) ?_
    refine lv_icmp_ge (tgt := 77) hx hb dX3_tell_5 (by decide) (fun c5 => ?_) (fun c5 => ?_)
    · have hf := if_t c5 hf
      exact hR _ ls H locs _ (congrArg (fun q => (wX3 cI cZ A q cw)) (Option.some.inj hf)) dX3_tell_77 hP hD hS
    · have hf := if_f c5 hf
      refine lv_aload_n hx hb dX3_tell_8 rfl (lv_at hl 0 rfl) ?_
      refine ld_f S iX3 hK hP 0 10 (.ref (A 9)) (gX3_0 _ _ _ _ _) rfl (by decide) k37 rfl rfl dX3_tell_9 ?_
      refine lv_iload_n hx hb dX3_tell_12 rfl (lv_at hl 1 rfl) ?_
      refine lv_iconst (v := (-1)) hx hb dX3_tell_13 (by decide) ?_
      obtain ⟨c14, hf⟩ := ck_t hf
      refine st_i hx hb hK hP hD hS 9 0 (sX3_9 _ _ _ _ _ _ _) (gX3_9 _ _ _ _ _) rfl c14 dX3_tell_14 (fun H locs hP hD hS => ?_)
      refine lv_aload_n hx hb dX3_tell_15 rfl (lv_at hl 0 rfl) ?_
      refine lv_iload_n hx hb dX3_tell_16 rfl (lv_at hl 1 rfl) ?_
      obtain ⟨q17, h17, hf⟩ := bd_t hf
      refine cl_i (va_runV (As := [.int x1]) (rest := []) S (mX3_isJoined l D cI cZ A (aS ct 10 x1 (-1)) cw x1 H.size q17 h17) (cwV 1 hts gX3_tell_X3_isJoined rfl rfl rfl (by decide +kernel) ⟨Nat.le_of_ble_eq_true rfl, Nat.le_of_ble_eq_true rfl⟩) (mP_V (ci := 3) (Cut.self _ []) hP hD hK hG rfl (gX3_0 _ _ _ _ _)) rfl rfl hl.1 rfl (lv_room (Nat.le_of_ble_eq_true rfl)) dX3_tell_17 ⟨Nat.le_refl _, Nat.le_refl _⟩) (Cut.self _ _) hP hD hS hA (fun H locs hP hD hS => ?_)
      refine lv_if_eq (tgt := 71) hx hb dX3_tell_20 (by decide) (fun c20 => ?_) (fun c20 => ?_)
      · have hf := if_t c20 hf
        refine lv_iinc (v := x1 + 1) (lv' := [(1, .int (x1 + 1)), (0, .ref (A 0))]) hx hb dX3_tell_71 hl (k := 1) rfl rfl (by decide) rfl (fun ls hl => ?_)
        refine lv_goto (tgt := 2) hx hb dX3_tell_74 (by decide) ?_
        exact hk2 _ hf H locs hP hD hS ls (lv_sub hl [1, 0] rfl)
      · have hf := if_f c20 hf
        refine lv_aload_n hx hb dX3_tell_23 rfl (lv_at hl 0 rfl) ?_
        refine ld_f S iX3 hK hP 0 0 (.ref (A 15)) (gX3_0 _ _ _ _ _) rfl (by decide) k55 rfl rfl dX3_tell_24 ?_
        refine ld_f S iX4 hK hP 15 0 (.ref (A 16)) (gX3_15 _ _ _ _ _) rfl (by decide) k63 rfl rfl dX3_tell_27 ?_
        refine lv_iload_n hx hb dX3_tell_30 rfl (lv_at hl 1 rfl) ?_
        obtain ⟨c31, hf⟩ := ck_t hf
        refine va_iald (f := cw 0) hx hb hK hP 16 0 (gX3_16 _ _ _ _ _) rfl (inb_in c31) dX3_tell_31 ?_
        refine lv_iconst (v := 5) hx hb dX3_tell_32 (by decide) ?_
        refine lv_idiv hx hb dX3_tell_33 (by decide) ?_
        refine lv_istore_n (lv' := [(2, .int ((cw 0 x1.toNatClampNeg) / 5)), (0, .ref (A 0)), (1, .int x1)]) hx hb dX3_tell_34 rfl hl (by decide) rfl (fun ls hl => ?_)
        refine lv_aload_n hx hb dX3_tell_35 rfl (lv_at hl 1 rfl) ?_
        refine ld_f S iX3 hK hP 0 10 (.ref (A 9)) (gX3_0 _ _ _ _ _) rfl (by decide) k37 rfl rfl dX3_tell_36 ?_
        refine lv_iload_n hx hb dX3_tell_39 rfl (lv_at hl 2 rfl) ?_
        refine lv_aload_n hx hb dX3_tell_40 rfl (lv_at hl 1 rfl) ?_
        refine ld_f S iX3 hK hP 0 1 (.ref (A 1)) (gX3_0 _ _ _ _ _) rfl (by decide) k9 rfl rfl dX3_tell_41 ?_
        refine lv_iload_n hx hb dX3_tell_44 rfl (lv_at hl 0 rfl) ?_
        obtain ⟨c45, hf⟩ := ck_t hf
        refine va_iald (f := ct 1) hx hb hK hP 1 0 (gX3_1 _ _ _ _ _) rfl (inb_in c45) dX3_tell_45 ?_
        obtain ⟨c46, hf⟩ := ck_t hf
        refine st_i hx hb hK hP hD hS 9 0 (sX3_9 _ _ _ _ _ _ _) (gX3_9 _ _ _ _ _) rfl c46 dX3_tell_46 (fun H locs hP hD hS => ?_)
        refine lv_aload_n hx hb dX3_tell_47 rfl (lv_at hl 1 rfl) ?_
        refine ld_f S iX3 hK hP 0 11 (.ref (A 10)) (gX3_0 _ _ _ _ _) rfl (by decide) k40 rfl rfl dX3_tell_48 ?_
        refine lv_iload_n hx hb dX3_tell_51 rfl (lv_at hl 2 rfl) ?_
        refine lv_aload_n hx hb dX3_tell_52 rfl (lv_at hl 1 rfl) ?_
        refine ld_f S iX3 hK hP 0 2 (.ref (A 2)) (gX3_0 _ _ _ _ _) rfl (by decide) k15 rfl rfl dX3_tell_53 ?_
        refine lv_iload_n hx hb dX3_tell_56 rfl (lv_at hl 0 rfl) ?_
        obtain ⟨c57, hf⟩ := ck_t hf
        refine va_iald (f := ct 2) hx hb hK hP 2 0 (gX3_2 _ _ _ _ _) rfl (inb_in c57) dX3_tell_57 ?_
        obtain ⟨c58, hf⟩ := ck_t hf
        refine st_i hx hb hK hP hD hS 10 0 (sX3_10 _ _ _ _ _ _ _) (gX3_10 _ _ _ _ _) rfl c58 dX3_tell_58 (fun H locs hP hD hS => ?_)
        refine lv_aload_n hx hb dX3_tell_59 rfl (lv_at hl 1 rfl) ?_
        refine ld_f S iX3 hK hP 0 12 (.ref (A 11)) (gX3_0 _ _ _ _ _) rfl (by decide) k43 rfl rfl dX3_tell_60 ?_
        refine lv_iload_n hx hb dX3_tell_63 rfl (lv_at hl 2 rfl) ?_
        refine lv_aload_n hx hb dX3_tell_64 rfl (lv_at hl 1 rfl) ?_
        refine ld_f S iX3 hK hP 0 3 (.ref (A 3)) (gX3_0 _ _ _ _ _) rfl (by decide) k18 rfl rfl dX3_tell_65 ?_
        refine lv_iload_n hx hb dX3_tell_68 rfl (lv_at hl 0 rfl) ?_
        obtain ⟨c69, hf⟩ := ck_t hf
        refine va_iald (f := ct 3) hx hb hK hP 3 0 (gX3_3 _ _ _ _ _) rfl (inb_in c69) dX3_tell_69 ?_
        obtain ⟨c70, hf⟩ := ck_t hf
        refine st_i hx hb hK hP hD hS 11 0 (sX3_11 _ _ _ _ _ _ _) (gX3_11 _ _ _ _ _) rfl c70 dX3_tell_70 (fun H locs hP hD hS => ?_)
        refine lv_iinc (v := x1 + 1) (lv' := [(1, .int (x1 + 1)), (2, .int ((cw 0 x1.toNatClampNeg) / 5)), (0, .ref (A 0))]) hx hb dX3_tell_71 hl (k := 2) rfl rfl (by decide) rfl (fun ls hl => ?_)
        refine lv_goto (tgt := 2) hx hb dX3_tell_74 (by decide) ?_
        exact hk2 _ hf H locs hP hD hS ls (lv_sub hl [2, 0] rfl)
  intro H locs hP hD hS ls hl
  have hl : lv_has ls 3 [(0, .ref (A 0))] := hl
  unfold fX3_tell at hf
  refine lv_iconst (v := 0) hx hb dX3_tell_0 (by decide) ?_
  refine lv_istore_n (lv' := [(1, .int 0), (0, .ref (A 0))]) hx hb dX3_tell_1 rfl hl (by decide) rfl (fun ls hl => ?_)
  exact B2 _ _ hf H locs hP hD hS ls (lv_sub hl [1, 0] rfl)
set_option maxHeartbeats 4000000 in
set_option maxRecDepth 100000 in
theorem mX3_guardForHouses (l : Launch) (D : va_G) (cI cZ : ClassId) (A : Nat → Nat)  (ct : St) (cw : St) (sz : Nat) (res : St) (hf : fX3_guardForHouses ct cw = some res) : Met l yX3_guardForHouses wsX3_guardForHouses ({ frames := 2, cells := 0, slots := 0, locals := 43 }) (mP D (tysX cI cZ) [.ref (A 0)] (wX3 cI cZ A ct cw) sz) (mQv D (wX3 cI cZ A ct cw) (wX3 cI cZ A res cw) sz) 0 0 (va_A (wX3 cI cZ A ct cw) sz) := by
  refine mkM_v (cc := cX3_guardForHouses) (maxL := 2) (own := RX3) (by decide +kernel) rfl rfl (Nat.le_of_ble_eq_true rfl) ?_
  intro p e s m args below meth c A0 Q S hK hG hA hR
  obtain ⟨hx, hb, hml, hown, hts⟩ := id S
  have k46 := hts (.fieldLink RX3 46 "SwitchFloor$Tree" "caught" "[Z") (by decide +kernel)
  have iX3 : ∀ w ∈ wsX30, w ∈ wsX3_guardForHouses := by decide +kernel
  have k55 := hts (.fieldLink RX3 55 "SwitchFloor$Tree" "wiring" "LSwitchFloor$Wiring;") (by decide +kernel)
  have k103 := hts (.fieldLink RX3 103 "SwitchFloor$Wiring" "guard" "[I") (by decide +kernel)
  have iX4 : ∀ w ∈ wsX40, w ∈ wsX3_guardForHouses := by decide +kernel
  have k37 := hts (.fieldLink RX3 37 "SwitchFloor$Tree" "toldRoot" "[I") (by decide +kernel)
  have B41 : ∀ (ct : St) (x1 : Int32) (y0 : Int32) (y1 : Int32) (k2 : (St × Int32) → Option (St)) (hk2 : ∀ a2, k2 a2 = some res → Bk p l e ({ frames := 2, cells := 0, slots := 0, locals := 43 }) s m args below meth c Q A0 D 2 0 0 (wX3 cI cZ A (a2.1) cw) [(0, .ref (A 0)), (1, .int (a2.2))] 2 []), fX3_guardForHouses_J41 k2 ct cw x1 y0 y1 = some res → Bk p l e ({ frames := 2, cells := 0, slots := 0, locals := 43 }) s m args below meth c Q A0 D 2 0 0 (wX3 cI cZ A ct cw) [(0, .ref (A 0)), (1, .int x1)] 41 [.int y0, .int y1, .ref (A 12)] := by
    intro ct x1 y0 y1 k2 hk2 hf
    unfold fX3_guardForHouses_J41 at hf
    intro H locs hP hD hS ls hl
    obtain ⟨c41, hf⟩ := ck_t hf
    refine st_z hx hb hK hP hD hS 12 1 (sX3_12 _ _ _ _ _ _ _) (gX3_12 _ _ _ _ _) rfl c41 dX3_guardForHouses_41 (fun H locs hP hD hS => ?_)
    refine lv_aload_n hx hb dX3_guardForHouses_42 rfl (lv_at hl 0 rfl) ?_
    refine ld_f S iX3 hK hP 0 13 (.ref (A 12)) (gX3_0 _ _ _ _ _) rfl (by decide) k46 rfl rfl dX3_guardForHouses_43 ?_
    refine lv_iload_n hx hb dX3_guardForHouses_46 rfl (lv_at hl 1 rfl) ?_
    obtain ⟨c47, hf⟩ := ck_t hf
    refine va_zald (f := (aS ct 13 y1 (vp_nar .boolean y0)) 13) hx hb hK hP 12 1 (gX3_12 _ _ _ _ _) rfl (inb_in c47) dX3_guardForHouses_47 ?_
    refine lv_if_eq (tgt := 64) hx hb dX3_guardForHouses_48 (by decide) (fun c48 => ?_) (fun c48 => ?_)
    · have hf := if_t c48 hf
      refine lv_iinc (v := x1 + 1) (lv' := [(1, .int (x1 + 1)), (0, .ref (A 0))]) hx hb dX3_guardForHouses_64 hl (k := 1) rfl rfl (by decide) rfl (fun ls hl => ?_)
      refine lv_goto (tgt := 2) hx hb dX3_guardForHouses_67 (by decide) ?_
      exact hk2 _ hf H locs hP hD hS ls (lv_sub hl [1, 0] rfl)
    · have hf := if_f c48 hf
      refine lv_aload_n hx hb dX3_guardForHouses_51 rfl (lv_at hl 0 rfl) ?_
      refine ld_f S iX3 hK hP 0 10 (.ref (A 9)) (gX3_0 _ _ _ _ _) rfl (by decide) k37 rfl rfl dX3_guardForHouses_52 ?_
      refine lv_iload_n hx hb dX3_guardForHouses_55 rfl (lv_at hl 1 rfl) ?_
      refine lv_iconst (v := (-1)) hx hb dX3_guardForHouses_56 (by decide) ?_
      obtain ⟨c57, hf⟩ := ck_t hf
      refine st_i hx hb hK hP hD hS 9 0 (sX3_9 _ _ _ _ _ _ _) (gX3_9 _ _ _ _ _) rfl c57 dX3_guardForHouses_57 (fun H locs hP hD hS => ?_)
      refine lv_aload_n hx hb dX3_guardForHouses_58 rfl (lv_at hl 0 rfl) ?_
      refine lv_iload_n hx hb dX3_guardForHouses_59 rfl (lv_at hl 1 rfl) ?_
      refine lv_iconst (v := (-1)) hx hb dX3_guardForHouses_60 (by decide) ?_
      obtain ⟨q61, h61, hf⟩ := bd_t hf
      refine cl_v (va_runV (As := [.int x1, .int (-1)]) (rest := []) S (mX3_beginShut l D cI cZ A (aS (aS ct 13 y1 (vp_nar .boolean y0)) 10 x1 (-1)) cw x1 (-1) H.size q61 h61) (cwV 2 hts gX3_guardForHouses_X3_beginShut rfl rfl rfl (by decide +kernel) ⟨Nat.le_of_ble_eq_true rfl, Nat.le_of_ble_eq_true rfl⟩) (mP_V (ci := 3) (Cut.self _ []) hP hD hK hG rfl (gX3_0 _ _ _ _ _)) rfl rfl hl.1 rfl (lv_room (Nat.le_of_ble_eq_true rfl)) dX3_guardForHouses_61 ⟨Nat.le_refl _, Nat.le_refl _⟩) (Cut.self _ _) hP hD hS hA (fun H locs hP hD hS => ?_)
      refine lv_iinc (v := x1 + 1) (lv' := [(1, .int (x1 + 1)), (0, .ref (A 0))]) hx hb dX3_guardForHouses_64 hl (k := 1) rfl rfl (by decide) rfl (fun ls hl => ?_)
      refine lv_goto (tgt := 2) hx hb dX3_guardForHouses_67 (by decide) ?_
      exact hk2 _ hf H locs hP hD hS ls (lv_sub hl [1, 0] rfl)
  have B40 : ∀ (ct : St) (x1 : Int32) (y0 : Int32) (k2 : (St × Int32) → Option (St)) (hk2 : ∀ a2, k2 a2 = some res → Bk p l e ({ frames := 2, cells := 0, slots := 0, locals := 43 }) s m args below meth c Q A0 D 2 0 0 (wX3 cI cZ A (a2.1) cw) [(0, .ref (A 0)), (1, .int (a2.2))] 2 []), fX3_guardForHouses_J40 k2 ct cw x1 y0 = some res → Bk p l e ({ frames := 2, cells := 0, slots := 0, locals := 43 }) s m args below meth c Q A0 D 2 0 0 (wX3 cI cZ A ct cw) [(0, .ref (A 0)), (1, .int x1)] 40 [.int y0, .ref (A 12)] := by
    intro ct x1 y0 k2 hk2 hf
    unfold fX3_guardForHouses_J40 at hf
    intro H locs hP hD hS ls hl
    refine lv_iconst (v := 0) hx hb dX3_guardForHouses_40 (by decide) ?_
    exact B41 _ _ _ _ k2 hk2 hf H locs hP hD hS ls (lv_sub hl [0, 1] rfl)
  have B2 : ∀ (ct : St) (x1 : Int32), fX3_guardForHouses_L2 cw ct x1 = some res → Bk p l e ({ frames := 2, cells := 0, slots := 0, locals := 43 }) s m args below meth c Q A0 D 2 0 0 (wX3 cI cZ A ct cw) [(0, .ref (A 0)), (1, .int x1)] 2 [] := by
    intro ct x1 hf
    refine loop_ind (step := (fun k a => fX3_guardForHouses_S2 k cw (a.1) (a.2))) (fun a => Bk p l e ({ frames := 2, cells := 0, slots := 0, locals := 43 }) s m args below meth c Q A0 D 2 0 0 (wX3 cI cZ A (a.1) cw) [(0, .ref (A 0)), (1, .int (a.2))] 2 []) ?_ _ _ hf
    clear hf
    intro k2 hk2 a hf
    obtain ⟨ct_, x1_⟩ := a
    clear ct x1
    obtain ⟨ct, e_⟩ : ∃ z, z = ct_ := ⟨_, rfl⟩
    subst e_
    obtain ⟨x1, e_⟩ : ∃ z, z = x1_ := ⟨_, rfl⟩
    subst e_
    have hf : fX3_guardForHouses_S2 k2 cw ct x1 = some res := hf
    show Bk p l e ({ frames := 2, cells := 0, slots := 0, locals := 43 }) s m args below meth c Q A0 D 2 0 0 (wX3 cI cZ A ct cw) [(0, .ref (A 0)), (1, .int x1)] 2 []
    unfold fX3_guardForHouses_S2 at hf
    intro H locs hP hD hS ls hl
    refine lv_iload_n hx hb dX3_guardForHouses_2 rfl (lv_at hl 1 rfl) ?_
    refine lv_bipush (v := 30) hx hb dX3_guardForHouses_3 (by decide) ?_
    refine lv_icmp_ge (tgt := 70) hx hb dX3_guardForHouses_5 (by decide) (fun c5 => ?_) (fun c5 => ?_)
    · have hf := if_t c5 hf
      exact hR _ ls H locs _ (congrArg (fun q => (wX3 cI cZ A q cw)) (Option.some.inj hf)) dX3_guardForHouses_70 hP hD hS
    · have hf := if_f c5 hf
      refine lv_aload_n hx hb dX3_guardForHouses_8 rfl (lv_at hl 0 rfl) ?_
      refine ld_f S iX3 hK hP 0 13 (.ref (A 12)) (gX3_0 _ _ _ _ _) rfl (by decide) k46 rfl rfl dX3_guardForHouses_9 ?_
      refine lv_iload_n hx hb dX3_guardForHouses_12 rfl (lv_at hl 1 rfl) ?_
      refine lv_aload_n hx hb dX3_guardForHouses_13 rfl (lv_at hl 0 rfl) ?_
      refine ld_f S iX3 hK hP 0 0 (.ref (A 15)) (gX3_0 _ _ _ _ _) rfl (by decide) k55 rfl rfl dX3_guardForHouses_14 ?_
      refine ld_f S iX4 hK hP 15 3 (.ref (A 19)) (gX3_15 _ _ _ _ _) rfl (by decide) k103 rfl rfl dX3_guardForHouses_17 ?_
      refine lv_iload_n hx hb dX3_guardForHouses_20 rfl (lv_at hl 1 rfl) ?_
      obtain ⟨c21, hf⟩ := ck_t hf
      refine va_iald (f := cw 3) hx hb hK hP 19 0 (gX3_19 _ _ _ _ _) rfl (inb_in c21) dX3_guardForHouses_21 ?_
      refine lv_iconst (v := 2) hx hb dX3_guardForHouses_22 (by decide) ?_
      refine lv_icmp_ne (tgt := 40) hx hb dX3_guardForHouses_23 (by decide) (fun c23 => ?_) (fun c23 => ?_)
      · have hf := if_f c23 hf
        exact B40 _ _ _ k2 hk2 hf H locs hP hD hS ls (lv_sub hl [0, 1] rfl)
      · have hf := if_t c23 hf
        refine lv_aload_n hx hb dX3_guardForHouses_26 rfl (lv_at hl 0 rfl) ?_
        refine ld_f S iX3 hK hP 0 10 (.ref (A 9)) (gX3_0 _ _ _ _ _) rfl (by decide) k37 rfl rfl dX3_guardForHouses_27 ?_
        refine lv_iload_n hx hb dX3_guardForHouses_30 rfl (lv_at hl 1 rfl) ?_
        obtain ⟨c31, hf⟩ := ck_t hf
        refine va_iald (f := ct 10) hx hb hK hP 9 0 (gX3_9 _ _ _ _ _) rfl (inb_in c31) dX3_guardForHouses_31 ?_
        refine lv_iconst (v := (-1)) hx hb dX3_guardForHouses_32 (by decide) ?_
        refine lv_icmp_eq (tgt := 40) hx hb dX3_guardForHouses_33 (by decide) (fun c33 => ?_) (fun c33 => ?_)
        · have hf := if_t c33 hf
          exact B40 _ _ _ k2 hk2 hf H locs hP hD hS ls (lv_sub hl [0, 1] rfl)
        · have hf := if_f c33 hf
          refine lv_iconst (v := 1) hx hb dX3_guardForHouses_36 (by decide) ?_
          refine lv_goto (tgt := 41) hx hb dX3_guardForHouses_37 (by decide) ?_
          exact B41 _ _ _ _ k2 hk2 hf H locs hP hD hS ls (lv_sub hl [0, 1] rfl)
  intro H locs hP hD hS ls hl
  have hl : lv_has ls 2 [(0, .ref (A 0))] := hl
  unfold fX3_guardForHouses at hf
  refine lv_iconst (v := 0) hx hb dX3_guardForHouses_0 (by decide) ?_
  refine lv_istore_n (lv' := [(1, .int 0), (0, .ref (A 0))]) hx hb dX3_guardForHouses_1 rfl hl (by decide) rfl (fun ls hl => ?_)
  exact B2 _ _ hf H locs hP hD hS ls (lv_sub hl [1, 0] rfl)
set_option maxHeartbeats 4000000 in
set_option maxRecDepth 100000 in
theorem mX3_spreadStale (l : Launch) (D : va_G) (cI cZ : ClassId) (A : Nat → Nat)  (ct : St) (cw : St) (sz : Nat) (res : St) (hf : fX3_spreadStale ct cw = some res) : Met l yX3_spreadStale wsX3_spreadStale ({ frames := 2, cells := 0, slots := 0, locals := 43 }) (mP D (tysX cI cZ) [.ref (A 0)] (wX3 cI cZ A ct cw) sz) (mQv D (wX3 cI cZ A ct cw) (wX3 cI cZ A res cw) sz) 0 0 (va_A (wX3 cI cZ A ct cw) sz) := by
  refine mkM_v (cc := cX3_spreadStale) (maxL := 3) (own := RX3) (by decide +kernel) rfl rfl (Nat.le_of_ble_eq_true rfl) ?_
  intro p e s m args below meth c A0 Q S hK hG hA hR
  obtain ⟨hx, hb, hml, hown, hts⟩ := id S
  have k49 := hts (.fieldLink RX3 49 "SwitchFloor$Tree" "stale" "[Z") (by decide +kernel)
  have iX3 : ∀ w ∈ wsX30, w ∈ wsX3_spreadStale := by decide +kernel
  have k55 := hts (.fieldLink RX3 55 "SwitchFloor$Tree" "wiring" "LSwitchFloor$Wiring;") (by decide +kernel)
  have k63 := hts (.fieldLink RX3 63 "SwitchFloor$Wiring" "peer" "[I") (by decide +kernel)
  have iX4 : ∀ w ∈ wsX40, w ∈ wsX3_spreadStale := by decide +kernel
  have B10 : ∀ (x1 : Int32) (k2 : (St × Int32) → Option (St)) (hk2 : ∀ a2, k2 a2 = some res → Bk p l e ({ frames := 2, cells := 0, slots := 0, locals := 43 }) s m args below meth c Q A0 D 3 0 0 (wX3 cI cZ A (a2.1) cw) [(0, .ref (A 0)), (1, .int (a2.2))] 2 []) (ct : St) (x2 : Int32), fX3_spreadStale_L10 k2 cw x1 ct x2 = some res → Bk p l e ({ frames := 2, cells := 0, slots := 0, locals := 43 }) s m args below meth c Q A0 D 3 0 0 (wX3 cI cZ A ct cw) [(0, .ref (A 0)), (1, .int x1), (2, .int x2)] 10 [] := by
    intro x1 k2 hk2 ct x2 hf
    refine loop_ind (step := (fun k a => fX3_spreadStale_S10 k2 k cw x1 (a.1) (a.2))) (fun a => Bk p l e ({ frames := 2, cells := 0, slots := 0, locals := 43 }) s m args below meth c Q A0 D 3 0 0 (wX3 cI cZ A (a.1) cw) [(0, .ref (A 0)), (1, .int x1), (2, .int (a.2))] 10 []) ?_ _ _ hf
    clear hf
    intro k10 hk10 a hf
    obtain ⟨ct_, x2_⟩ := a
    clear ct x2
    obtain ⟨ct, e_⟩ : ∃ z, z = ct_ := ⟨_, rfl⟩
    subst e_
    obtain ⟨x2, e_⟩ : ∃ z, z = x2_ := ⟨_, rfl⟩
    subst e_
    have hf : fX3_spreadStale_S10 k2 k10 cw x1 ct x2 = some res := hf
    show Bk p l e ({ frames := 2, cells := 0, slots := 0, locals := 43 }) s m args below meth c Q A0 D 3 0 0 (wX3 cI cZ A ct cw) [(0, .ref (A 0)), (1, .int x1), (2, .int x2)] 10 []
    unfold fX3_spreadStale_S10 at hf
    intro H locs hP hD hS ls hl
    refine lv_iload_n hx hb dX3_spreadStale_10 rfl (lv_at hl 2 rfl) ?_
    refine lv_bipush (v := 30) hx hb dX3_spreadStale_11 (by decide) ?_
    refine lv_icmp_ge (tgt := 58) hx hb dX3_spreadStale_13 (by decide) (fun c13 => ?_) (fun c13 => ?_)
    · have hf := if_t c13 hf
      refine lv_iinc (v := x1 + 1) (lv' := [(1, .int (x1 + 1)), (0, .ref (A 0)), (2, .int x2)]) hx hb dX3_spreadStale_58 hl (k := 1) rfl rfl (by decide) rfl (fun ls hl => ?_)
      refine lv_goto (tgt := 2) hx hb dX3_spreadStale_61 (by decide) ?_
      exact hk2 _ hf H locs hP hD hS ls (lv_sub hl [1, 0] rfl)
    · have hf := if_f c13 hf
      refine lv_aload_n hx hb dX3_spreadStale_16 rfl (lv_at hl 0 rfl) ?_
      refine ld_f S iX3 hK hP 0 14 (.ref (A 13)) (gX3_0 _ _ _ _ _) rfl (by decide) k49 rfl rfl dX3_spreadStale_17 ?_
      refine lv_iload_n hx hb dX3_spreadStale_20 rfl (lv_at hl 2 rfl) ?_
      refine lv_iconst (v := 5) hx hb dX3_spreadStale_21 (by decide) ?_
      refine lv_idiv hx hb dX3_spreadStale_22 (by decide) ?_
      obtain ⟨c23, hf⟩ := ck_t hf
      refine va_zald (f := ct 14) hx hb hK hP 13 1 (gX3_13 _ _ _ _ _) rfl (inb_in c23) dX3_spreadStale_23 ?_
      refine lv_if_eq (tgt := 52) hx hb dX3_spreadStale_24 (by decide) (fun c24 => ?_) (fun c24 => ?_)
      · have hf := if_t c24 hf
        refine lv_iinc (v := x2 + 1) (lv' := [(2, .int (x2 + 1)), (0, .ref (A 0)), (1, .int x1)]) hx hb dX3_spreadStale_52 hl (k := 2) rfl rfl (by decide) rfl (fun ls hl => ?_)
        refine lv_goto (tgt := 10) hx hb dX3_spreadStale_55 (by decide) ?_
        exact hk10 _ hf H locs hP hD hS ls (lv_sub hl [1, 2, 0] rfl)
      · have hf := if_f c24 hf
        refine lv_aload_n hx hb dX3_spreadStale_27 rfl (lv_at hl 0 rfl) ?_
        refine lv_iload_n hx hb dX3_spreadStale_28 rfl (lv_at hl 2 rfl) ?_
        obtain ⟨q29, h29, hf⟩ := bd_t hf
        refine cl_i (va_runV (As := [.int x2]) (rest := []) S (mX3_isJoined l D cI cZ A ct cw x2 H.size q29 h29) (cwV 1 hts gX3_spreadStale_X3_isJoined rfl rfl rfl (by decide +kernel) ⟨Nat.le_of_ble_eq_true rfl, Nat.le_of_ble_eq_true rfl⟩) (mP_V (ci := 3) (Cut.self _ []) hP hD hK hG rfl (gX3_0 _ _ _ _ _)) rfl rfl hl.1 rfl (lv_room (Nat.le_of_ble_eq_true rfl)) dX3_spreadStale_29 ⟨Nat.le_refl _, Nat.le_refl _⟩) (Cut.self _ _) hP hD hS hA (fun H locs hP hD hS => ?_)
        refine lv_if_eq (tgt := 52) hx hb dX3_spreadStale_32 (by decide) (fun c32 => ?_) (fun c32 => ?_)
        · have hf := if_t c32 hf
          refine lv_iinc (v := x2 + 1) (lv' := [(2, .int (x2 + 1)), (0, .ref (A 0)), (1, .int x1)]) hx hb dX3_spreadStale_52 hl (k := 2) rfl rfl (by decide) rfl (fun ls hl => ?_)
          refine lv_goto (tgt := 10) hx hb dX3_spreadStale_55 (by decide) ?_
          exact hk10 _ hf H locs hP hD hS ls (lv_sub hl [1, 2, 0] rfl)
        · have hf := if_f c32 hf
          refine lv_aload_n hx hb dX3_spreadStale_35 rfl (lv_at hl 0 rfl) ?_
          refine ld_f S iX3 hK hP 0 14 (.ref (A 13)) (gX3_0 _ _ _ _ _) rfl (by decide) k49 rfl rfl dX3_spreadStale_36 ?_
          refine lv_aload_n hx hb dX3_spreadStale_39 rfl (lv_at hl 0 rfl) ?_
          refine ld_f S iX3 hK hP 0 0 (.ref (A 15)) (gX3_0 _ _ _ _ _) rfl (by decide) k55 rfl rfl dX3_spreadStale_40 ?_
          refine ld_f S iX4 hK hP 15 0 (.ref (A 16)) (gX3_15 _ _ _ _ _) rfl (by decide) k63 rfl rfl dX3_spreadStale_43 ?_
          refine lv_iload_n hx hb dX3_spreadStale_46 rfl (lv_at hl 2 rfl) ?_
          obtain ⟨c47, hf⟩ := ck_t hf
          refine va_iald (f := cw 0) hx hb hK hP 16 0 (gX3_16 _ _ _ _ _) rfl (inb_in c47) dX3_spreadStale_47 ?_
          refine lv_iconst (v := 5) hx hb dX3_spreadStale_48 (by decide) ?_
          refine lv_idiv hx hb dX3_spreadStale_49 (by decide) ?_
          refine lv_iconst (v := 1) hx hb dX3_spreadStale_50 (by decide) ?_
          obtain ⟨c51, hf⟩ := ck_t hf
          refine st_z hx hb hK hP hD hS 13 1 (sX3_13 _ _ _ _ _ _ _) (gX3_13 _ _ _ _ _) rfl c51 dX3_spreadStale_51 (fun H locs hP hD hS => ?_)
          refine lv_iinc (v := x2 + 1) (lv' := [(2, .int (x2 + 1)), (0, .ref (A 0)), (1, .int x1)]) hx hb dX3_spreadStale_52 hl (k := 2) rfl rfl (by decide) rfl (fun ls hl => ?_)
          refine lv_goto (tgt := 10) hx hb dX3_spreadStale_55 (by decide) ?_
          exact hk10 _ hf H locs hP hD hS ls (lv_sub hl [1, 2, 0] rfl)
  have B2 : ∀ (ct : St) (x1 : Int32), fX3_spreadStale_L2 cw ct x1 = some res → Bk p l e ({ frames := 2, cells := 0, slots := 0, locals := 43 }) s m args below meth c Q A0 D 3 0 0 (wX3 cI cZ A ct cw) [(0, .ref (A 0)), (1, .int x1)] 2 [] := by
    intro ct x1 hf
    refine loop_ind (step := (fun k a => fX3_spreadStale_S2 k cw (a.1) (a.2))) (fun a => Bk p l e ({ frames := 2, cells := 0, slots := 0, locals := 43 }) s m args below meth c Q A0 D 3 0 0 (wX3 cI cZ A (a.1) cw) [(0, .ref (A 0)), (1, .int (a.2))] 2 []) ?_ _ _ hf
    clear hf
    intro k2 hk2 a hf
    obtain ⟨ct_, x1_⟩ := a
    clear ct x1
    obtain ⟨ct, e_⟩ : ∃ z, z = ct_ := ⟨_, rfl⟩
    subst e_
    obtain ⟨x1, e_⟩ : ∃ z, z = x1_ := ⟨_, rfl⟩
    subst e_
    have hf : fX3_spreadStale_S2 k2 cw ct x1 = some res := hf
    show Bk p l e ({ frames := 2, cells := 0, slots := 0, locals := 43 }) s m args below meth c Q A0 D 3 0 0 (wX3 cI cZ A ct cw) [(0, .ref (A 0)), (1, .int x1)] 2 []
    unfold fX3_spreadStale_S2 at hf
    intro H locs hP hD hS ls hl
    refine lv_iload_n hx hb dX3_spreadStale_2 rfl (lv_at hl 1 rfl) ?_
    refine lv_bipush (v := 6) hx hb dX3_spreadStale_3 (by decide) ?_
    refine lv_icmp_ge (tgt := 64) hx hb dX3_spreadStale_5 (by decide) (fun c5 => ?_) (fun c5 => ?_)
    · have hf := if_t c5 hf
      exact hR _ ls H locs _ (congrArg (fun q => (wX3 cI cZ A q cw)) (Option.some.inj hf)) dX3_spreadStale_64 hP hD hS
    · have hf := if_f c5 hf
      refine lv_iconst (v := 0) hx hb dX3_spreadStale_8 (by decide) ?_
      refine lv_istore_n (lv' := [(2, .int 0), (0, .ref (A 0)), (1, .int x1)]) hx hb dX3_spreadStale_9 rfl hl (by decide) rfl (fun ls hl => ?_)
      exact B10 _ k2 hk2 _ _ hf H locs hP hD hS ls (lv_sub hl [1, 2, 0] rfl)
  intro H locs hP hD hS ls hl
  have hl : lv_has ls 3 [(0, .ref (A 0))] := hl
  unfold fX3_spreadStale at hf
  refine lv_iconst (v := 0) hx hb dX3_spreadStale_0 (by decide) ?_
  refine lv_istore_n (lv' := [(1, .int 0), (0, .ref (A 0))]) hx hb dX3_spreadStale_1 rfl hl (by decide) rfl (fun ls hl => ?_)
  exact B2 _ _ hf H locs hP hD hS ls (lv_sub hl [1, 0] rfl)
set_option maxHeartbeats 4000000 in
set_option maxRecDepth 100000 in
theorem mX3_endStorms (l : Launch) (D : va_G) (cI cZ : ClassId) (A : Nat → Nat)  (ct : St) (cw : St) (sz : Nat) (res : St) (hf : fX3_endStorms ct cw = some res) : Met l yX3_endStorms wsX3_endStorms ({ frames := 3, cells := 0, slots := 0, locals := 63 }) (mP D (tysX cI cZ) [.ref (A 0)] (wX3 cI cZ A ct cw) sz) (mQv D (wX3 cI cZ A ct cw) (wX3 cI cZ A res cw) sz) 0 0 (va_A (wX3 cI cZ A ct cw) sz) := by
  refine mkM_v (cc := cX3_endStorms) (maxL := 2) (own := RX3) (by decide +kernel) rfl rfl (Nat.le_of_ble_eq_true rfl) ?_
  intro p e s m args below meth c A0 Q S hK hG hA hR
  obtain ⟨hx, hb, hml, hown, hts⟩ := id S
  have k24 := hts (.fieldLink RX3 24 "SwitchFloor$Tree" "shutTill" "[I") (by decide +kernel)
  have iX3 : ∀ w ∈ wsX30, w ∈ wsX3_endStorms := by decide +kernel
  have k59 := hts (.fieldLink RX3 59 "SwitchFloor$Tree" "beats" "I") (by decide +kernel)
  have B2 : ∀ (ct : St) (x1 : Int32), fX3_endStorms_L2 cw ct x1 = some res → Bk p l e ({ frames := 3, cells := 0, slots := 0, locals := 63 }) s m args below meth c Q A0 D 2 0 0 (wX3 cI cZ A ct cw) [(0, .ref (A 0)), (1, .int x1)] 2 [] := by
    intro ct x1 hf
    refine loop_ind (step := (fun k a => fX3_endStorms_S2 k cw (a.1) (a.2))) (fun a => Bk p l e ({ frames := 3, cells := 0, slots := 0, locals := 63 }) s m args below meth c Q A0 D 2 0 0 (wX3 cI cZ A (a.1) cw) [(0, .ref (A 0)), (1, .int (a.2))] 2 []) ?_ _ _ hf
    clear hf
    intro k2 hk2 a hf
    obtain ⟨ct_, x1_⟩ := a
    clear ct x1
    obtain ⟨ct, e_⟩ : ∃ z, z = ct_ := ⟨_, rfl⟩
    subst e_
    obtain ⟨x1, e_⟩ : ∃ z, z = x1_ := ⟨_, rfl⟩
    subst e_
    have hf : fX3_endStorms_S2 k2 cw ct x1 = some res := hf
    show Bk p l e ({ frames := 3, cells := 0, slots := 0, locals := 63 }) s m args below meth c Q A0 D 2 0 0 (wX3 cI cZ A ct cw) [(0, .ref (A 0)), (1, .int x1)] 2 []
    unfold fX3_endStorms_S2 at hf
    intro H locs hP hD hS ls hl
    refine lv_iload_n hx hb dX3_endStorms_2 rfl (lv_at hl 1 rfl) ?_
    refine lv_bipush (v := 30) hx hb dX3_endStorms_3 (by decide) ?_
    refine lv_icmp_ge (tgt := 41) hx hb dX3_endStorms_5 (by decide) (fun c5 => ?_) (fun c5 => ?_)
    · have hf := if_t c5 hf
      exact hR _ ls H locs _ (congrArg (fun q => (wX3 cI cZ A q cw)) (Option.some.inj hf)) dX3_endStorms_41 hP hD hS
    · have hf := if_f c5 hf
      refine lv_aload_n hx hb dX3_endStorms_8 rfl (lv_at hl 0 rfl) ?_
      refine ld_f S iX3 hK hP 0 5 (.ref (A 5)) (gX3_0 _ _ _ _ _) rfl (by decide) k24 rfl rfl dX3_endStorms_9 ?_
      refine lv_iload_n hx hb dX3_endStorms_12 rfl (lv_at hl 1 rfl) ?_
      obtain ⟨c13, hf⟩ := ck_t hf
      refine va_iald (f := ct 5) hx hb hK hP 5 0 (gX3_5 _ _ _ _ _) rfl (inb_in c13) dX3_endStorms_13 ?_
      refine lv_if_le (tgt := 35) hx hb dX3_endStorms_14 (by decide) (fun c14 => ?_) (fun c14 => ?_)
      · have hf := if_t c14 hf
        refine lv_iinc (v := x1 + 1) (lv' := [(1, .int (x1 + 1)), (0, .ref (A 0))]) hx hb dX3_endStorms_35 hl (k := 1) rfl rfl (by decide) rfl (fun ls hl => ?_)
        refine lv_goto (tgt := 2) hx hb dX3_endStorms_38 (by decide) ?_
        exact hk2 _ hf H locs hP hD hS ls (lv_sub hl [1, 0] rfl)
      · have hf := if_f c14 hf
        refine lv_aload_n hx hb dX3_endStorms_17 rfl (lv_at hl 0 rfl) ?_
        refine ld_f S iX3 hK hP 0 5 (.ref (A 5)) (gX3_0 _ _ _ _ _) rfl (by decide) k24 rfl rfl dX3_endStorms_18 ?_
        refine lv_iload_n hx hb dX3_endStorms_21 rfl (lv_at hl 1 rfl) ?_
        obtain ⟨c22, hf⟩ := ck_t hf
        refine va_iald (f := ct 5) hx hb hK hP 5 0 (gX3_5 _ _ _ _ _) rfl (inb_in c22) dX3_endStorms_22 ?_
        refine lv_aload_n hx hb dX3_endStorms_23 rfl (lv_at hl 0 rfl) ?_
        refine ld_f S iX3 hK hP 0 9 (.int (ct 9 0)) (gX3_0 _ _ _ _ _) rfl (by decide) k59 rfl rfl dX3_endStorms_24 ?_
        refine lv_icmp_gt (tgt := 35) hx hb dX3_endStorms_27 (by decide) (fun c27 => ?_) (fun c27 => ?_)
        · have hf := if_t c27 hf
          refine lv_iinc (v := x1 + 1) (lv' := [(1, .int (x1 + 1)), (0, .ref (A 0))]) hx hb dX3_endStorms_35 hl (k := 1) rfl rfl (by decide) rfl (fun ls hl => ?_)
          refine lv_goto (tgt := 2) hx hb dX3_endStorms_38 (by decide) ?_
          exact hk2 _ hf H locs hP hD hS ls (lv_sub hl [1, 0] rfl)
        · have hf := if_f c27 hf
          refine lv_aload_n hx hb dX3_endStorms_30 rfl (lv_at hl 0 rfl) ?_
          refine lv_iload_n hx hb dX3_endStorms_31 rfl (lv_at hl 1 rfl) ?_
          obtain ⟨q32, h32, hf⟩ := bd_t hf
          refine cl_v (va_runV (As := [.int x1]) (rest := []) S (mX3_endShut l D cI cZ A ct cw x1 H.size q32 h32) (cwV 1 hts gX3_endStorms_X3_endShut rfl rfl rfl (by decide +kernel) ⟨Nat.le_of_ble_eq_true rfl, Nat.le_of_ble_eq_true rfl⟩) (mP_V (ci := 3) (Cut.self _ []) hP hD hK hG rfl (gX3_0 _ _ _ _ _)) rfl rfl hl.1 rfl (lv_room (Nat.le_of_ble_eq_true rfl)) dX3_endStorms_32 ⟨Nat.le_refl _, Nat.le_refl _⟩) (Cut.self _ _) hP hD hS hA (fun H locs hP hD hS => ?_)
          refine lv_iinc (v := x1 + 1) (lv' := [(1, .int (x1 + 1)), (0, .ref (A 0))]) hx hb dX3_endStorms_35 hl (k := 1) rfl rfl (by decide) rfl (fun ls hl => ?_)
          refine lv_goto (tgt := 2) hx hb dX3_endStorms_38 (by decide) ?_
          exact hk2 _ hf H locs hP hD hS ls (lv_sub hl [1, 0] rfl)
  intro H locs hP hD hS ls hl
  have hl : lv_has ls 2 [(0, .ref (A 0))] := hl
  unfold fX3_endStorms at hf
  refine lv_iconst (v := 0) hx hb dX3_endStorms_0 (by decide) ?_
  refine lv_istore_n (lv' := [(1, .int 0), (0, .ref (A 0))]) hx hb dX3_endStorms_1 rfl hl (by decide) rfl (fun ls hl => ?_)
  exact B2 _ _ hf H locs hP hD hS ls (lv_sub hl [1, 0] rfl)
set_option maxHeartbeats 4000000 in
set_option maxRecDepth 100000 in
theorem mX4_isBetterName (l : Launch) (D : va_G) (cI cZ : ClassId) (A : Nat → Nat)  (cw : St) (x1 : Int32) (x2 : Int32) (sz : Nat) (res : Int32) (hf : fX4_isBetterName cw x1 x2 = some res) : Met l yX4_isBetterName wsX4_isBetterName ({ frames := 0, cells := 0, slots := 0, locals := 0 }) (mP D (tysX cI cZ) [.ref (A 0), .int x1, .int x2] (wX4 cI cZ A cw) sz) (mQi D res (wX4 cI cZ A cw) (wX4 cI cZ A cw) sz) 0 0 (va_A (wX4 cI cZ A cw) sz) := by
  refine mkM_i (cc := cX4_isBetterName) (maxL := 3) (own := RX4) (by decide +kernel) rfl rfl (Nat.le_of_ble_eq_true rfl) ?_
  intro p e s m args below meth c A0 Q S hK hG hA hR
  obtain ⟨hx, hb, hml, hown, hts⟩ := id S
  have k27 := hts (.fieldLink RX4 27 "SwitchFloor$Wiring" "rank" "[I") (by decide +kernel)
  have iX4 : ∀ w ∈ wsX40, w ∈ wsX4_isBetterName := by decide +kernel
  intro H locs hP hD hS ls hl
  have hl : lv_has ls 3 [(0, .ref (A 0)), (1, .int x1), (2, .int x2)] := hl
  unfold fX4_isBetterName at hf
  refine lv_aload_n hx hb dX4_isBetterName_0 rfl (lv_at hl 0 rfl) ?_
  refine ld_f S iX4 hK hP 0 5 (.ref (A 6)) (gX4_0 _ _ _ _) rfl (by decide) k27 rfl rfl dX4_isBetterName_1 ?_
  refine lv_iload_n hx hb dX4_isBetterName_4 rfl (lv_at hl 1 rfl) ?_
  obtain ⟨c5, hf⟩ := ck_t hf
  refine va_iald (f := cw 5) hx hb hK hP 6 0 (gX4_6 _ _ _ _) rfl (inb_in c5) dX4_isBetterName_5 ?_
  refine lv_aload_n hx hb dX4_isBetterName_6 rfl (lv_at hl 0 rfl) ?_
  refine ld_f S iX4 hK hP 0 5 (.ref (A 6)) (gX4_0 _ _ _ _) rfl (by decide) k27 rfl rfl dX4_isBetterName_7 ?_
  refine lv_iload_n hx hb dX4_isBetterName_10 rfl (lv_at hl 2 rfl) ?_
  obtain ⟨c11, hf⟩ := ck_t hf
  refine va_iald (f := cw 5) hx hb hK hP 6 0 (gX4_6 _ _ _ _) rfl (inb_in c11) dX4_isBetterName_11 ?_
  refine lv_icmp_eq (tgt := 38) hx hb dX4_isBetterName_12 (by decide) (fun c12 => ?_) (fun c12 => ?_)
  · have hf := if_t c12 hf
    refine lv_iload_n hx hb dX4_isBetterName_38 rfl (lv_at hl 1 rfl) ?_
    refine lv_iload_n hx hb dX4_isBetterName_39 rfl (lv_at hl 2 rfl) ?_
    refine lv_icmp_ge (tgt := 47) hx hb dX4_isBetterName_40 (by decide) (fun c40 => ?_) (fun c40 => ?_)
    · have hf := if_t c40 hf
      refine lv_iconst (v := 0) hx hb dX4_isBetterName_47 (by decide) ?_
      exact hR _ ls H locs _ _ (congrArg (fun q => q) (Option.some.inj hf)) rfl (by decide) dX4_isBetterName_48 hP hD hS
    · have hf := if_f c40 hf
      refine lv_iconst (v := 1) hx hb dX4_isBetterName_43 (by decide) ?_
      refine lv_goto (tgt := 48) hx hb dX4_isBetterName_44 (by decide) ?_
      exact hR _ ls H locs _ _ (congrArg (fun q => q) (Option.some.inj hf)) rfl (by decide) dX4_isBetterName_48 hP hD hS
  · have hf := if_f c12 hf
    refine lv_aload_n hx hb dX4_isBetterName_15 rfl (lv_at hl 0 rfl) ?_
    refine ld_f S iX4 hK hP 0 5 (.ref (A 6)) (gX4_0 _ _ _ _) rfl (by decide) k27 rfl rfl dX4_isBetterName_16 ?_
    refine lv_iload_n hx hb dX4_isBetterName_19 rfl (lv_at hl 1 rfl) ?_
    obtain ⟨c20, hf⟩ := ck_t hf
    refine va_iald (f := cw 5) hx hb hK hP 6 0 (gX4_6 _ _ _ _) rfl (inb_in c20) dX4_isBetterName_20 ?_
    refine lv_aload_n hx hb dX4_isBetterName_21 rfl (lv_at hl 0 rfl) ?_
    refine ld_f S iX4 hK hP 0 5 (.ref (A 6)) (gX4_0 _ _ _ _) rfl (by decide) k27 rfl rfl dX4_isBetterName_22 ?_
    refine lv_iload_n hx hb dX4_isBetterName_25 rfl (lv_at hl 2 rfl) ?_
    obtain ⟨c26, hf⟩ := ck_t hf
    refine va_iald (f := cw 5) hx hb hK hP 6 0 (gX4_6 _ _ _ _) rfl (inb_in c26) dX4_isBetterName_26 ?_
    refine lv_icmp_ge (tgt := 34) hx hb dX4_isBetterName_27 (by decide) (fun c27 => ?_) (fun c27 => ?_)
    · have hf := if_t c27 hf
      refine lv_iconst (v := 0) hx hb dX4_isBetterName_34 (by decide) ?_
      refine lv_goto (tgt := 48) hx hb dX4_isBetterName_35 (by decide) ?_
      exact hR _ ls H locs _ _ (congrArg (fun q => q) (Option.some.inj hf)) rfl (by decide) dX4_isBetterName_48 hP hD hS
    · have hf := if_f c27 hf
      refine lv_iconst (v := 1) hx hb dX4_isBetterName_30 (by decide) ?_
      refine lv_goto (tgt := 48) hx hb dX4_isBetterName_31 (by decide) ?_
      exact hR _ ls H locs _ _ (congrArg (fun q => q) (Option.some.inj hf)) rfl (by decide) dX4_isBetterName_48 hP hD hS
set_option maxHeartbeats 4000000 in
set_option maxRecDepth 100000 in
theorem mX3_isHeldBetter (l : Launch) (D : va_G) (cI cZ : ClassId) (A : Nat → Nat)  (ct : St) (cw : St) (x1 : Int32) (sz : Nat) (res : Int32) (hf : fX3_isHeldBetter ct cw x1 = some res) : Met l yX3_isHeldBetter wsX3_isHeldBetter ({ frames := 1, cells := 0, slots := 0, locals := 22 }) (mP D (tysX cI cZ) [.ref (A 0), .int x1] (wX3 cI cZ A ct cw) sz) (mQi D res (wX3 cI cZ A ct cw) (wX3 cI cZ A ct cw) sz) 0 0 (va_A (wX3 cI cZ A ct cw) sz) := by
  refine mkM_i (cc := cX3_isHeldBetter) (maxL := 3) (own := RX3) (by decide +kernel) rfl rfl (Nat.le_of_ble_eq_true rfl) ?_
  intro p e s m args below meth c A0 Q S hK hG hA hR
  obtain ⟨hx, hb, hml, hown, hts⟩ := id S
  have k9 := hts (.fieldLink RX3 9 "SwitchFloor$Tree" "root" "[I") (by decide +kernel)
  have iX3 : ∀ w ∈ wsX30, w ∈ wsX3_isHeldBetter := by decide +kernel
  have k37 := hts (.fieldLink RX3 37 "SwitchFloor$Tree" "toldRoot" "[I") (by decide +kernel)
  have k15 := hts (.fieldLink RX3 15 "SwitchFloor$Tree" "cost" "[I") (by decide +kernel)
  have k40 := hts (.fieldLink RX3 40 "SwitchFloor$Tree" "toldCost" "[I") (by decide +kernel)
  have k55 := hts (.fieldLink RX3 55 "SwitchFloor$Tree" "wiring" "LSwitchFloor$Wiring;") (by decide +kernel)
  have k63 := hts (.fieldLink RX3 63 "SwitchFloor$Wiring" "peer" "[I") (by decide +kernel)
  have iX4 : ∀ w ∈ wsX40, w ∈ wsX3_isHeldBetter := by decide +kernel
  intro H locs hP hD hS ls hl
  have hl : lv_has ls 3 [(0, .ref (A 0)), (1, .int x1)] := hl
  unfold fX3_isHeldBetter at hf
  refine lv_iload_n hx hb dX3_isHeldBetter_0 rfl (lv_at hl 1 rfl) ?_
  refine lv_iconst (v := 5) hx hb dX3_isHeldBetter_1 (by decide) ?_
  refine lv_idiv hx hb dX3_isHeldBetter_2 (by decide) ?_
  refine lv_istore_n (lv' := [(2, .int (x1 / 5)), (0, .ref (A 0)), (1, .int x1)]) hx hb dX3_isHeldBetter_3 rfl hl (by decide) rfl (fun ls hl => ?_)
  refine lv_aload_n hx hb dX3_isHeldBetter_4 rfl (lv_at hl 1 rfl) ?_
  refine ld_f S iX3 hK hP 0 1 (.ref (A 1)) (gX3_0 _ _ _ _ _) rfl (by decide) k9 rfl rfl dX3_isHeldBetter_5 ?_
  refine lv_iload_n hx hb dX3_isHeldBetter_8 rfl (lv_at hl 0 rfl) ?_
  obtain ⟨c9, hf⟩ := ck_t hf
  refine va_iald (f := ct 1) hx hb hK hP 1 0 (gX3_1 _ _ _ _ _) rfl (inb_in c9) dX3_isHeldBetter_9 ?_
  refine lv_aload_n hx hb dX3_isHeldBetter_10 rfl (lv_at hl 1 rfl) ?_
  refine ld_f S iX3 hK hP 0 10 (.ref (A 9)) (gX3_0 _ _ _ _ _) rfl (by decide) k37 rfl rfl dX3_isHeldBetter_11 ?_
  refine lv_iload_n hx hb dX3_isHeldBetter_14 rfl (lv_at hl 2 rfl) ?_
  obtain ⟨c15, hf⟩ := ck_t hf
  refine va_iald (f := ct 10) hx hb hK hP 9 0 (gX3_9 _ _ _ _ _) rfl (inb_in c15) dX3_isHeldBetter_15 ?_
  refine lv_icmp_eq (tgt := 39) hx hb dX3_isHeldBetter_16 (by decide) (fun c16 => ?_) (fun c16 => ?_)
  · have hf := if_t c16 hf
    refine lv_aload_n hx hb dX3_isHeldBetter_39 rfl (lv_at hl 1 rfl) ?_
    refine ld_f S iX3 hK hP 0 2 (.ref (A 2)) (gX3_0 _ _ _ _ _) rfl (by decide) k15 rfl rfl dX3_isHeldBetter_40 ?_
    refine lv_iload_n hx hb dX3_isHeldBetter_43 rfl (lv_at hl 0 rfl) ?_
    obtain ⟨c44, hf⟩ := ck_t hf
    refine va_iald (f := ct 2) hx hb hK hP 2 0 (gX3_2 _ _ _ _ _) rfl (inb_in c44) dX3_isHeldBetter_44 ?_
    refine lv_aload_n hx hb dX3_isHeldBetter_45 rfl (lv_at hl 1 rfl) ?_
    refine ld_f S iX3 hK hP 0 11 (.ref (A 10)) (gX3_0 _ _ _ _ _) rfl (by decide) k40 rfl rfl dX3_isHeldBetter_46 ?_
    refine lv_iload_n hx hb dX3_isHeldBetter_49 rfl (lv_at hl 2 rfl) ?_
    obtain ⟨c50, hf⟩ := ck_t hf
    refine va_iald (f := ct 11) hx hb hK hP 10 0 (gX3_10 _ _ _ _ _) rfl (inb_in c50) dX3_isHeldBetter_50 ?_
    refine lv_icmp_eq (tgt := 75) hx hb dX3_isHeldBetter_51 (by decide) (fun c51 => ?_) (fun c51 => ?_)
    · have hf := if_t c51 hf
      refine lv_aload_n hx hb dX3_isHeldBetter_75 rfl (lv_at hl 1 rfl) ?_
      refine ld_f S iX3 hK hP 0 0 (.ref (A 15)) (gX3_0 _ _ _ _ _) rfl (by decide) k55 rfl rfl dX3_isHeldBetter_76 ?_
      refine lv_iload_n hx hb dX3_isHeldBetter_79 rfl (lv_at hl 0 rfl) ?_
      refine lv_aload_n hx hb dX3_isHeldBetter_80 rfl (lv_at hl 1 rfl) ?_
      refine ld_f S iX3 hK hP 0 0 (.ref (A 15)) (gX3_0 _ _ _ _ _) rfl (by decide) k55 rfl rfl dX3_isHeldBetter_81 ?_
      refine ld_f S iX4 hK hP 15 0 (.ref (A 16)) (gX3_15 _ _ _ _ _) rfl (by decide) k63 rfl rfl dX3_isHeldBetter_84 ?_
      refine lv_iload_n hx hb dX3_isHeldBetter_87 rfl (lv_at hl 2 rfl) ?_
      obtain ⟨c88, hf⟩ := ck_t hf
      refine va_iald (f := cw 0) hx hb hK hP 16 0 (gX3_16 _ _ _ _ _) rfl (inb_in c88) dX3_isHeldBetter_88 ?_
      refine lv_iconst (v := 5) hx hb dX3_isHeldBetter_89 (by decide) ?_
      refine lv_idiv hx hb dX3_isHeldBetter_90 (by decide) ?_
      obtain ⟨q91, h91, hf⟩ := bd_t hf
      refine cl_i (va_runV (As := [.int (x1 / 5), .int ((cw 0 x1.toNatClampNeg) / 5)]) (rest := []) S (mX4_isBetterName l D cI cZ (aX3_X4_1 A) cw (x1 / 5) ((cw 0 x1.toNatClampNeg) / 5) H.size q91 h91) (cwV 2 hts gX3_isHeldBetter_X4_isBetterName rfl rfl rfl (by decide +kernel) ⟨Nat.le_of_ble_eq_true rfl, Nat.le_of_ble_eq_true rfl⟩) (mP_V (ci := 4) (cutX3_X4_1 _ _ _ _ _ st0) hP hD hK hG rfl (gX4_0 _ _ _ _)) rfl rfl hl.1 rfl (lv_room (Nat.le_of_ble_eq_true rfl)) dX3_isHeldBetter_91 ⟨Nat.le_refl _, Nat.le_refl _⟩) (cutX3_X4_1 _ _ _ _ _ _) hP hD hS hA (fun H locs hP hD hS => ?_)
      obtain ⟨c94, hf⟩ := ck_t hf
      exact hR _ ls H locs _ _ (congrArg (fun q => q) (Option.some.inj hf)) rfl (isb_n c94) dX3_isHeldBetter_94 hP hD hS
    · have hf := if_f c51 hf
      refine lv_aload_n hx hb dX3_isHeldBetter_54 rfl (lv_at hl 1 rfl) ?_
      refine ld_f S iX3 hK hP 0 2 (.ref (A 2)) (gX3_0 _ _ _ _ _) rfl (by decide) k15 rfl rfl dX3_isHeldBetter_55 ?_
      refine lv_iload_n hx hb dX3_isHeldBetter_58 rfl (lv_at hl 0 rfl) ?_
      obtain ⟨c59, hf⟩ := ck_t hf
      refine va_iald (f := ct 2) hx hb hK hP 2 0 (gX3_2 _ _ _ _ _) rfl (inb_in c59) dX3_isHeldBetter_59 ?_
      refine lv_aload_n hx hb dX3_isHeldBetter_60 rfl (lv_at hl 1 rfl) ?_
      refine ld_f S iX3 hK hP 0 11 (.ref (A 10)) (gX3_0 _ _ _ _ _) rfl (by decide) k40 rfl rfl dX3_isHeldBetter_61 ?_
      refine lv_iload_n hx hb dX3_isHeldBetter_64 rfl (lv_at hl 2 rfl) ?_
      obtain ⟨c65, hf⟩ := ck_t hf
      refine va_iald (f := ct 11) hx hb hK hP 10 0 (gX3_10 _ _ _ _ _) rfl (inb_in c65) dX3_isHeldBetter_65 ?_
      refine lv_icmp_ge (tgt := 73) hx hb dX3_isHeldBetter_66 (by decide) (fun c66 => ?_) (fun c66 => ?_)
      · have hf := if_t c66 hf
        refine lv_iconst (v := 0) hx hb dX3_isHeldBetter_73 (by decide) ?_
        exact hR _ ls H locs _ _ (congrArg (fun q => q) (Option.some.inj hf)) rfl (by decide) dX3_isHeldBetter_74 hP hD hS
      · have hf := if_f c66 hf
        refine lv_iconst (v := 1) hx hb dX3_isHeldBetter_69 (by decide) ?_
        refine lv_goto (tgt := 74) hx hb dX3_isHeldBetter_70 (by decide) ?_
        exact hR _ ls H locs _ _ (congrArg (fun q => q) (Option.some.inj hf)) rfl (by decide) dX3_isHeldBetter_74 hP hD hS
  · have hf := if_f c16 hf
    refine lv_aload_n hx hb dX3_isHeldBetter_19 rfl (lv_at hl 1 rfl) ?_
    refine ld_f S iX3 hK hP 0 0 (.ref (A 15)) (gX3_0 _ _ _ _ _) rfl (by decide) k55 rfl rfl dX3_isHeldBetter_20 ?_
    refine lv_aload_n hx hb dX3_isHeldBetter_23 rfl (lv_at hl 1 rfl) ?_
    refine ld_f S iX3 hK hP 0 1 (.ref (A 1)) (gX3_0 _ _ _ _ _) rfl (by decide) k9 rfl rfl dX3_isHeldBetter_24 ?_
    refine lv_iload_n hx hb dX3_isHeldBetter_27 rfl (lv_at hl 0 rfl) ?_
    obtain ⟨c28, hf⟩ := ck_t hf
    refine va_iald (f := ct 1) hx hb hK hP 1 0 (gX3_1 _ _ _ _ _) rfl (inb_in c28) dX3_isHeldBetter_28 ?_
    refine lv_aload_n hx hb dX3_isHeldBetter_29 rfl (lv_at hl 1 rfl) ?_
    refine ld_f S iX3 hK hP 0 10 (.ref (A 9)) (gX3_0 _ _ _ _ _) rfl (by decide) k37 rfl rfl dX3_isHeldBetter_30 ?_
    refine lv_iload_n hx hb dX3_isHeldBetter_33 rfl (lv_at hl 2 rfl) ?_
    obtain ⟨c34, hf⟩ := ck_t hf
    refine va_iald (f := ct 10) hx hb hK hP 9 0 (gX3_9 _ _ _ _ _) rfl (inb_in c34) dX3_isHeldBetter_34 ?_
    obtain ⟨q35, h35, hf⟩ := bd_t hf
    refine cl_i (va_runV (As := [.int (ct 1 (x1 / 5).toNatClampNeg), .int (ct 10 x1.toNatClampNeg)]) (rest := []) S (mX4_isBetterName l D cI cZ (aX3_X4_1 A) cw (ct 1 (x1 / 5).toNatClampNeg) (ct 10 x1.toNatClampNeg) H.size q35 h35) (cwV 2 hts gX3_isHeldBetter_X4_isBetterName rfl rfl rfl (by decide +kernel) ⟨Nat.le_of_ble_eq_true rfl, Nat.le_of_ble_eq_true rfl⟩) (mP_V (ci := 4) (cutX3_X4_1 _ _ _ _ _ st0) hP hD hK hG rfl (gX4_0 _ _ _ _)) rfl rfl hl.1 rfl (lv_room (Nat.le_of_ble_eq_true rfl)) dX3_isHeldBetter_35 ⟨Nat.le_refl _, Nat.le_refl _⟩) (cutX3_X4_1 _ _ _ _ _ _) hP hD hS hA (fun H locs hP hD hS => ?_)
    obtain ⟨c38, hf⟩ := ck_t hf
    exact hR _ ls H locs _ _ (congrArg (fun q => q) (Option.some.inj hf)) rfl (isb_n c38) dX3_isHeldBetter_38 hP hD hS
set_option maxHeartbeats 4000000 in
set_option maxRecDepth 100000 in
theorem mX3_roleOf (l : Launch) (D : va_G) (cI cZ : ClassId) (A : Nat → Nat)  (ct : St) (cw : St) (x1 : Int32) (sz : Nat) (res : Int32) (hf : fX3_roleOf ct cw x1 = some res) : Met l yX3_roleOf wsX3_roleOf ({ frames := 2, cells := 0, slots := 0, locals := 44 }) (mP D (tysX cI cZ) [.ref (A 0), .int x1] (wX3 cI cZ A ct cw) sz) (mQi D res (wX3 cI cZ A ct cw) (wX3 cI cZ A ct cw) sz) 0 0 (va_A (wX3 cI cZ A ct cw) sz) := by
  refine mkM_i (cc := cX3_roleOf) (maxL := 2) (own := RX3) (by decide +kernel) rfl rfl (Nat.le_of_ble_eq_true rfl) ?_
  intro p e s m args below meth c A0 Q S hK hG hA hR
  obtain ⟨hx, hb, hml, hown, hts⟩ := id S
  have k55 := hts (.fieldLink RX3 55 "SwitchFloor$Tree" "wiring" "LSwitchFloor$Wiring;") (by decide +kernel)
  have iX3 : ∀ w ∈ wsX30, w ∈ wsX3_roleOf := by decide +kernel
  have k63 := hts (.fieldLink RX3 63 "SwitchFloor$Wiring" "peer" "[I") (by decide +kernel)
  have iX4 : ∀ w ∈ wsX40, w ∈ wsX3_roleOf := by decide +kernel
  have k21 := hts (.fieldLink RX3 21 "SwitchFloor$Tree" "rootPort" "[I") (by decide +kernel)
  have k37 := hts (.fieldLink RX3 37 "SwitchFloor$Tree" "toldRoot" "[I") (by decide +kernel)
  intro H locs hP hD hS ls hl
  have hl : lv_has ls 2 [(0, .ref (A 0)), (1, .int x1)] := hl
  unfold fX3_roleOf at hf
  refine lv_aload_n hx hb dX3_roleOf_0 rfl (lv_at hl 0 rfl) ?_
  refine ld_f S iX3 hK hP 0 0 (.ref (A 15)) (gX3_0 _ _ _ _ _) rfl (by decide) k55 rfl rfl dX3_roleOf_1 ?_
  refine ld_f S iX4 hK hP 15 0 (.ref (A 16)) (gX3_15 _ _ _ _ _) rfl (by decide) k63 rfl rfl dX3_roleOf_4 ?_
  refine lv_iload_n hx hb dX3_roleOf_7 rfl (lv_at hl 1 rfl) ?_
  obtain ⟨c8, hf⟩ := ck_t hf
  refine va_iald (f := cw 0) hx hb hK hP 16 0 (gX3_16 _ _ _ _ _) rfl (inb_in c8) dX3_roleOf_8 ?_
  refine lv_iconst (v := (-1)) hx hb dX3_roleOf_9 (by decide) ?_
  refine lv_icmp_eq (tgt := 21) hx hb dX3_roleOf_10 (by decide) (fun c10 => ?_) (fun c10 => ?_)
  · have hf := if_t c10 hf
    refine lv_iconst (v := 0) hx hb dX3_roleOf_21 (by decide) ?_
    exact hR _ ls H locs _ _ (congrArg (fun q => q) (Option.some.inj hf)) rfl rfl dX3_roleOf_22 hP hD hS
  · have hf := if_f c10 hf
    refine lv_aload_n hx hb dX3_roleOf_13 rfl (lv_at hl 0 rfl) ?_
    refine lv_iload_n hx hb dX3_roleOf_14 rfl (lv_at hl 1 rfl) ?_
    obtain ⟨q15, h15, hf⟩ := bd_t hf
    refine cl_i (va_runV (As := [.int x1]) (rest := []) S (mX3_isShut l D cI cZ A ct cw x1 H.size q15 h15) (cwV 1 hts gX3_roleOf_X3_isShut rfl rfl rfl (by decide +kernel) ⟨Nat.le_of_ble_eq_true rfl, Nat.le_of_ble_eq_true rfl⟩) (mP_V (ci := 3) (Cut.self _ []) hP hD hK hG rfl (gX3_0 _ _ _ _ _)) rfl rfl hl.1 rfl (lv_room (Nat.le_of_ble_eq_true rfl)) dX3_roleOf_15 ⟨Nat.le_refl _, Nat.le_refl _⟩) (Cut.self _ _) hP hD hS hA (fun H locs hP hD hS => ?_)
    refine lv_if_eq (tgt := 23) hx hb dX3_roleOf_18 (by decide) (fun c18 => ?_) (fun c18 => ?_)
    · have hf := if_t c18 hf
      refine lv_aload_n hx hb dX3_roleOf_23 rfl (lv_at hl 0 rfl) ?_
      refine ld_f S iX3 hK hP 0 4 (.ref (A 4)) (gX3_0 _ _ _ _ _) rfl (by decide) k21 rfl rfl dX3_roleOf_24 ?_
      refine lv_iload_n hx hb dX3_roleOf_27 rfl (lv_at hl 1 rfl) ?_
      refine lv_iconst (v := 5) hx hb dX3_roleOf_28 (by decide) ?_
      refine lv_idiv hx hb dX3_roleOf_29 (by decide) ?_
      obtain ⟨c30, hf⟩ := ck_t hf
      refine va_iald (f := ct 4) hx hb hK hP 4 0 (gX3_4 _ _ _ _ _) rfl (inb_in c30) dX3_roleOf_30 ?_
      refine lv_iload_n hx hb dX3_roleOf_31 rfl (lv_at hl 1 rfl) ?_
      refine lv_iconst (v := 5) hx hb dX3_roleOf_32 (by decide) ?_
      refine lv_irem hx hb dX3_roleOf_33 (by decide) ?_
      refine lv_icmp_ne (tgt := 39) hx hb dX3_roleOf_34 (by decide) (fun c34 => ?_) (fun c34 => ?_)
      · have hf := if_f c34 hf
        refine lv_aload_n hx hb dX3_roleOf_39 rfl (lv_at hl 0 rfl) ?_
        refine ld_f S iX3 hK hP 0 10 (.ref (A 9)) (gX3_0 _ _ _ _ _) rfl (by decide) k37 rfl rfl dX3_roleOf_40 ?_
        refine lv_iload_n hx hb dX3_roleOf_43 rfl (lv_at hl 1 rfl) ?_
        obtain ⟨c44, hf⟩ := ck_t hf
        refine va_iald (f := ct 10) hx hb hK hP 9 0 (gX3_9 _ _ _ _ _) rfl (inb_in c44) dX3_roleOf_44 ?_
        refine lv_iconst (v := (-1)) hx hb dX3_roleOf_45 (by decide) ?_
        refine lv_icmp_eq (tgt := 57) hx hb dX3_roleOf_46 (by decide) (fun c46 => ?_) (fun c46 => ?_)
        · have hf := if_t c46 hf
          refine lv_iconst (v := 2) hx hb dX3_roleOf_57 (by decide) ?_
          refine lv_goto (tgt := 62) hx hb dX3_roleOf_58 (by decide) ?_
          exact hR _ ls H locs _ _ (congrArg (fun q => q) (Option.some.inj hf)) rfl rfl dX3_roleOf_62 hP hD hS
        · have hf := if_f c46 hf
          refine lv_aload_n hx hb dX3_roleOf_49 rfl (lv_at hl 0 rfl) ?_
          refine lv_iload_n hx hb dX3_roleOf_50 rfl (lv_at hl 1 rfl) ?_
          obtain ⟨q51, h51, hf⟩ := bd_t hf
          refine cl_i (va_runV (As := [.int x1]) (rest := []) S (mX3_isHeldBetter l D cI cZ A ct cw x1 H.size q51 h51) (cwV 1 hts gX3_roleOf_X3_isHeldBetter rfl rfl rfl (by decide +kernel) ⟨Nat.le_of_ble_eq_true rfl, Nat.le_of_ble_eq_true rfl⟩) (mP_V (ci := 3) (Cut.self _ []) hP hD hK hG rfl (gX3_0 _ _ _ _ _)) rfl rfl hl.1 rfl (lv_room (Nat.le_of_ble_eq_true rfl)) dX3_roleOf_51 ⟨Nat.le_refl _, Nat.le_refl _⟩) (Cut.self _ _) hP hD hS hA (fun H locs hP hD hS => ?_)
          refine lv_if_eq (tgt := 61) hx hb dX3_roleOf_54 (by decide) (fun c54 => ?_) (fun c54 => ?_)
          · have hf := if_t c54 hf
            refine lv_iconst (v := 3) hx hb dX3_roleOf_61 (by decide) ?_
            exact hR _ ls H locs _ _ (congrArg (fun q => q) (Option.some.inj hf)) rfl rfl dX3_roleOf_62 hP hD hS
          · have hf := if_f c54 hf
            refine lv_iconst (v := 2) hx hb dX3_roleOf_57 (by decide) ?_
            refine lv_goto (tgt := 62) hx hb dX3_roleOf_58 (by decide) ?_
            exact hR _ ls H locs _ _ (congrArg (fun q => q) (Option.some.inj hf)) rfl rfl dX3_roleOf_62 hP hD hS
      · have hf := if_t c34 hf
        refine lv_iconst (v := 1) hx hb dX3_roleOf_37 (by decide) ?_
        exact hR _ ls H locs _ _ (congrArg (fun q => q) (Option.some.inj hf)) rfl rfl dX3_roleOf_38 hP hD hS
    · have hf := if_f c18 hf
      refine lv_iconst (v := 0) hx hb dX3_roleOf_21 (by decide) ?_
      exact hR _ ls H locs _ _ (congrArg (fun q => q) (Option.some.inj hf)) rfl rfl dX3_roleOf_22 hP hD hS
set_option maxHeartbeats 4000000 in
set_option maxRecDepth 100000 in
theorem mX3_turnTo (l : Launch) (D : va_G) (cI cZ : ClassId) (A : Nat → Nat)  (ct : St) (cw : St) (x1 : Int32) (x2 : Int32) (sz : Nat) (res : St) (hf : fX3_turnTo ct x1 x2 = some res) : Met l yX3_turnTo wsX3_turnTo ({ frames := 0, cells := 0, slots := 0, locals := 0 }) (mP D (tysX cI cZ) [.ref (A 0), .int x1, .int x2] (wX3 cI cZ A ct cw) sz) (mQv D (wX3 cI cZ A ct cw) (wX3 cI cZ A res cw) sz) 0 0 (va_A (wX3 cI cZ A ct cw) sz) := by
  refine mkM_v (cc := cX3_turnTo) (maxL := 3) (own := RX3) (by decide +kernel) rfl rfl (Nat.le_of_ble_eq_true rfl) ?_
  intro p e s m args below meth c A0 Q S hK hG hA hR
  obtain ⟨hx, hb, hml, hown, hts⟩ := id S
  have k27 := hts (.fieldLink RX3 27 "SwitchFloor$Tree" "open" "[Z") (by decide +kernel)
  have iX3 : ∀ w ∈ wsX30, w ∈ wsX3_turnTo := by decide +kernel
  have k49 := hts (.fieldLink RX3 49 "SwitchFloor$Tree" "stale" "[Z") (by decide +kernel)
  intro H locs hP hD hS ls hl
  have hl : lv_has ls 3 [(0, .ref (A 0)), (1, .int x1), (2, .int x2)] := hl
  unfold fX3_turnTo at hf
  refine lv_aload_n hx hb dX3_turnTo_0 rfl (lv_at hl 0 rfl) ?_
  refine ld_f S iX3 hK hP 0 6 (.ref (A 6)) (gX3_0 _ _ _ _ _) rfl (by decide) k27 rfl rfl dX3_turnTo_1 ?_
  refine lv_iload_n hx hb dX3_turnTo_4 rfl (lv_at hl 1 rfl) ?_
  obtain ⟨c5, hf⟩ := ck_t hf
  refine va_zald (f := ct 6) hx hb hK hP 6 1 (gX3_6 _ _ _ _ _) rfl (inb_in c5) dX3_turnTo_5 ?_
  refine lv_iload_n hx hb dX3_turnTo_6 rfl (lv_at hl 2 rfl) ?_
  refine lv_icmp_eq (tgt := 26) hx hb dX3_turnTo_7 (by decide) (fun c7 => ?_) (fun c7 => ?_)
  · have hf := if_t c7 hf
    exact hR _ ls H locs _ (congrArg (fun q => (wX3 cI cZ A q cw)) (Option.some.inj hf)) dX3_turnTo_26 hP hD hS
  · have hf := if_f c7 hf
    refine lv_aload_n hx hb dX3_turnTo_10 rfl (lv_at hl 0 rfl) ?_
    refine ld_f S iX3 hK hP 0 6 (.ref (A 6)) (gX3_0 _ _ _ _ _) rfl (by decide) k27 rfl rfl dX3_turnTo_11 ?_
    refine lv_iload_n hx hb dX3_turnTo_14 rfl (lv_at hl 1 rfl) ?_
    refine lv_iload_n hx hb dX3_turnTo_15 rfl (lv_at hl 2 rfl) ?_
    obtain ⟨c16, hf⟩ := ck_t hf
    refine st_z hx hb hK hP hD hS 6 1 (sX3_6 _ _ _ _ _ _ _) (gX3_6 _ _ _ _ _) rfl c16 dX3_turnTo_16 (fun H locs hP hD hS => ?_)
    refine lv_aload_n hx hb dX3_turnTo_17 rfl (lv_at hl 0 rfl) ?_
    refine ld_f S iX3 hK hP 0 14 (.ref (A 13)) (gX3_0 _ _ _ _ _) rfl (by decide) k49 rfl rfl dX3_turnTo_18 ?_
    refine lv_iload_n hx hb dX3_turnTo_21 rfl (lv_at hl 1 rfl) ?_
    refine lv_iconst (v := 5) hx hb dX3_turnTo_22 (by decide) ?_
    refine lv_idiv hx hb dX3_turnTo_23 (by decide) ?_
    refine lv_iconst (v := 1) hx hb dX3_turnTo_24 (by decide) ?_
    obtain ⟨c25, hf⟩ := ck_t hf
    refine st_z hx hb hK hP hD hS 13 1 (sX3_13 _ _ _ _ _ _ _) (gX3_13 _ _ _ _ _) rfl c25 dX3_turnTo_25 (fun H locs hP hD hS => ?_)
    exact hR _ ls H locs _ (congrArg (fun q => (wX3 cI cZ A q cw)) (Option.some.inj hf)) dX3_turnTo_26 hP hD hS
set_option maxHeartbeats 4000000 in
set_option maxRecDepth 100000 in
theorem mX3_turn (l : Launch) (D : va_G) (cI cZ : ClassId) (A : Nat → Nat)  (ct : St) (cw : St) (x1 : Int32) (sz : Nat) (res : St) (hf : fX3_turn ct cw x1 = some res) : Met l yX3_turn wsX3_turn ({ frames := 3, cells := 0, slots := 0, locals := 65 }) (mP D (tysX cI cZ) [.ref (A 0), .int x1] (wX3 cI cZ A ct cw) sz) (mQv D (wX3 cI cZ A ct cw) (wX3 cI cZ A res cw) sz) 0 0 (va_A (wX3 cI cZ A ct cw) sz) := by
  refine mkM_v (cc := cX3_turn) (maxL := 2) (own := RX3) (by decide +kernel) rfl rfl (Nat.le_of_ble_eq_true rfl) ?_
  intro p e s m args below meth c A0 Q S hK hG hA hR
  obtain ⟨hx, hb, hml, hown, hts⟩ := id S
  have k31 := hts (.fieldLink RX3 31 "SwitchFloor$Tree" "role" "[I") (by decide +kernel)
  have iX3 : ∀ w ∈ wsX30, w ∈ wsX3_turn := by decide +kernel
  have k55 := hts (.fieldLink RX3 55 "SwitchFloor$Tree" "wiring" "LSwitchFloor$Wiring;") (by decide +kernel)
  have k63 := hts (.fieldLink RX3 63 "SwitchFloor$Wiring" "peer" "[I") (by decide +kernel)
  have iX4 : ∀ w ∈ wsX40, w ∈ wsX3_turn := by decide +kernel
  have k27 := hts (.fieldLink RX3 27 "SwitchFloor$Tree" "open" "[Z") (by decide +kernel)
  have k34 := hts (.fieldLink RX3 34 "SwitchFloor$Tree" "waited" "[I") (by decide +kernel)
  have B61 : ∀ (ct : St) (x1 : Int32), fX3_turn_J61 ct cw x1 = some res → Bk p l e ({ frames := 3, cells := 0, slots := 0, locals := 65 }) s m args below meth c Q A0 D 2 0 0 (wX3 cI cZ A ct cw) [(0, .ref (A 0)), (1, .int x1)] 61 [] := by
    intro ct x1 hf
    unfold fX3_turn_J61 at hf
    intro H locs hP hD hS ls hl
    refine lv_aload_n hx hb dX3_turn_61 rfl (lv_at hl 0 rfl) ?_
    refine ld_f S iX3 hK hP 0 6 (.ref (A 6)) (gX3_0 _ _ _ _ _) rfl (by decide) k27 rfl rfl dX3_turn_62 ?_
    refine lv_iload_n hx hb dX3_turn_65 rfl (lv_at hl 1 rfl) ?_
    obtain ⟨c66, hf⟩ := ck_t hf
    refine va_zald (f := ct 6) hx hb hK hP 6 1 (gX3_6 _ _ _ _ _) rfl (inb_in c66) dX3_turn_66 ?_
    refine lv_if_ne (tgt := 103) hx hb dX3_turn_67 (by decide) (fun c67 => ?_) (fun c67 => ?_)
    · have hf := if_f c67 hf
      exact hR _ ls H locs _ (congrArg (fun q => (wX3 cI cZ A q cw)) (Option.some.inj hf)) dX3_turn_103 hP hD hS
    · have hf := if_t c67 hf
      refine lv_aload_n hx hb dX3_turn_70 rfl (lv_at hl 0 rfl) ?_
      refine ld_f S iX3 hK hP 0 8 (.ref (A 8)) (gX3_0 _ _ _ _ _) rfl (by decide) k34 rfl rfl dX3_turn_71 ?_
      refine lv_iload_n hx hb dX3_turn_74 rfl (lv_at hl 1 rfl) ?_
      refine lv_dup2_11 hx hb dX3_turn_75 rfl rfl ?_
      obtain ⟨c76, hf⟩ := ck_t hf
      refine va_iald (f := ct 8) hx hb hK hP 8 0 (gX3_8 _ _ _ _ _) rfl (inb_in c76) dX3_turn_76 ?_
      refine lv_iconst (v := 1) hx hb dX3_turn_77 (by decide) ?_
      refine lv_iadd hx hb dX3_turn_78 ?_
      obtain ⟨c79, hf⟩ := ck_t hf
      refine st_i hx hb hK hP hD hS 8 0 (sX3_8 _ _ _ _ _ _ _) (gX3_8 _ _ _ _ _) rfl c79 dX3_turn_79 (fun H locs hP hD hS => ?_)
      refine lv_aload_n hx hb dX3_turn_80 rfl (lv_at hl 0 rfl) ?_
      refine ld_f S iX3 hK hP 0 8 (.ref (A 8)) (gX3_0 _ _ _ _ _) rfl (by decide) k34 rfl rfl dX3_turn_81 ?_
      refine lv_iload_n hx hb dX3_turn_84 rfl (lv_at hl 1 rfl) ?_
      obtain ⟨c85, hf⟩ := ck_t hf
      refine va_iald (f := (aS ct 8 x1 ((ct 8 x1.toNatClampNeg) + 1)) 8) hx hb hK hP 8 0 (gX3_8 _ _ _ _ _) rfl (inb_in c85) dX3_turn_85 ?_
      refine lv_iconst (v := 2) hx hb dX3_turn_86 (by decide) ?_
      refine lv_icmp_le (tgt := 103) hx hb dX3_turn_87 (by decide) (fun c87 => ?_) (fun c87 => ?_)
      · have hf := if_t c87 hf
        exact hR _ ls H locs _ (congrArg (fun q => (wX3 cI cZ A q cw)) (Option.some.inj hf)) dX3_turn_103 hP hD hS
      · have hf := if_f c87 hf
        refine lv_aload_n hx hb dX3_turn_90 rfl (lv_at hl 0 rfl) ?_
        refine ld_f S iX3 hK hP 0 8 (.ref (A 8)) (gX3_0 _ _ _ _ _) rfl (by decide) k34 rfl rfl dX3_turn_91 ?_
        refine lv_iload_n hx hb dX3_turn_94 rfl (lv_at hl 1 rfl) ?_
        refine lv_iconst (v := 0) hx hb dX3_turn_95 (by decide) ?_
        obtain ⟨c96, hf⟩ := ck_t hf
        refine st_i hx hb hK hP hD hS 8 0 (sX3_8 _ _ _ _ _ _ _) (gX3_8 _ _ _ _ _) rfl c96 dX3_turn_96 (fun H locs hP hD hS => ?_)
        refine lv_aload_n hx hb dX3_turn_97 rfl (lv_at hl 0 rfl) ?_
        refine lv_iload_n hx hb dX3_turn_98 rfl (lv_at hl 1 rfl) ?_
        refine lv_iconst (v := 1) hx hb dX3_turn_99 (by decide) ?_
        obtain ⟨q100, h100, hf⟩ := bd_t hf
        refine cl_v (va_runV (As := [.int x1, .int 1]) (rest := []) S (mX3_turnTo l D cI cZ A (aS (aS ct 8 x1 ((ct 8 x1.toNatClampNeg) + 1)) 8 x1 0) cw x1 1 H.size q100 h100) (cwV 2 hts gX3_turn_X3_turnTo rfl rfl rfl (by decide +kernel) ⟨Nat.le_of_ble_eq_true rfl, Nat.le_of_ble_eq_true rfl⟩) (mP_V (ci := 3) (Cut.self _ []) hP hD hK hG rfl (gX3_0 _ _ _ _ _)) rfl rfl hl.1 rfl (lv_room (Nat.le_of_ble_eq_true rfl)) dX3_turn_100 ⟨Nat.le_refl _, Nat.le_refl _⟩) (Cut.self _ _) hP hD hS hA (fun H locs hP hD hS => ?_)
        exact hR _ ls H locs _ (congrArg (fun q => (wX3 cI cZ A q cw)) (Option.some.inj hf)) dX3_turn_103 hP hD hS
  intro H locs hP hD hS ls hl
  have hl : lv_has ls 2 [(0, .ref (A 0)), (1, .int x1)] := hl
  unfold fX3_turn at hf
  refine lv_aload_n hx hb dX3_turn_0 rfl (lv_at hl 0 rfl) ?_
  refine ld_f S iX3 hK hP 0 7 (.ref (A 7)) (gX3_0 _ _ _ _ _) rfl (by decide) k31 rfl rfl dX3_turn_1 ?_
  refine lv_iload_n hx hb dX3_turn_4 rfl (lv_at hl 1 rfl) ?_
  refine lv_aload_n hx hb dX3_turn_5 rfl (lv_at hl 0 rfl) ?_
  refine lv_iload_n hx hb dX3_turn_6 rfl (lv_at hl 1 rfl) ?_
  obtain ⟨q7, h7, hf⟩ := bd_t hf
  refine cl_i (va_runV (As := [.int x1]) (rest := [.int x1, .ref (A 7)]) S (mX3_roleOf l D cI cZ A ct cw x1 H.size q7 h7) (cwV 1 hts gX3_turn_X3_roleOf rfl rfl rfl (by decide +kernel) ⟨Nat.le_of_ble_eq_true rfl, Nat.le_of_ble_eq_true rfl⟩) (mP_V (ci := 3) (Cut.self _ []) hP hD hK hG rfl (gX3_0 _ _ _ _ _)) rfl rfl hl.1 rfl (lv_room (Nat.le_of_ble_eq_true rfl)) dX3_turn_7 ⟨Nat.le_refl _, Nat.le_refl _⟩) (Cut.self _ _) hP hD hS hA (fun H locs hP hD hS => ?_)
  obtain ⟨c10, hf⟩ := ck_t hf
  refine st_i hx hb hK hP hD hS 7 0 (sX3_7 _ _ _ _ _ _ _) (gX3_7 _ _ _ _ _) rfl c10 dX3_turn_10 (fun H locs hP hD hS => ?_)
  refine lv_aload_n hx hb dX3_turn_11 rfl (lv_at hl 0 rfl) ?_
  refine ld_f S iX3 hK hP 0 0 (.ref (A 15)) (gX3_0 _ _ _ _ _) rfl (by decide) k55 rfl rfl dX3_turn_12 ?_
  refine ld_f S iX4 hK hP 15 0 (.ref (A 16)) (gX3_15 _ _ _ _ _) rfl (by decide) k63 rfl rfl dX3_turn_15 ?_
  refine lv_iload_n hx hb dX3_turn_18 rfl (lv_at hl 1 rfl) ?_
  obtain ⟨c19, hf⟩ := ck_t hf
  refine va_iald (f := cw 0) hx hb hK hP 16 0 (gX3_16 _ _ _ _ _) rfl (inb_in c19) dX3_turn_19 ?_
  refine lv_iconst (v := (-1)) hx hb dX3_turn_20 (by decide) ?_
  refine lv_icmp_ne (tgt := 25) hx hb dX3_turn_21 (by decide) (fun c21 => ?_) (fun c21 => ?_)
  · have hf := if_f c21 hf
    refine lv_aload_n hx hb dX3_turn_25 rfl (lv_at hl 0 rfl) ?_
    refine ld_f S iX3 hK hP 0 7 (.ref (A 7)) (gX3_0 _ _ _ _ _) rfl (by decide) k31 rfl rfl dX3_turn_26 ?_
    refine lv_iload_n hx hb dX3_turn_29 rfl (lv_at hl 1 rfl) ?_
    obtain ⟨c30, hf⟩ := ck_t hf
    refine va_iald (f := (aS ct 7 x1 q7) 7) hx hb hK hP 7 0 (gX3_7 _ _ _ _ _) rfl (inb_in c30) dX3_turn_30 ?_
    refine lv_iconst (v := 1) hx hb dX3_turn_31 (by decide) ?_
    refine lv_icmp_eq (tgt := 61) hx hb dX3_turn_32 (by decide) (fun c32 => ?_) (fun c32 => ?_)
    · have hf := if_t c32 hf
      exact B61 _ _ hf H locs hP hD hS ls (lv_sub hl [0, 1] rfl)
    · have hf := if_f c32 hf
      refine lv_aload_n hx hb dX3_turn_35 rfl (lv_at hl 0 rfl) ?_
      refine ld_f S iX3 hK hP 0 7 (.ref (A 7)) (gX3_0 _ _ _ _ _) rfl (by decide) k31 rfl rfl dX3_turn_36 ?_
      refine lv_iload_n hx hb dX3_turn_39 rfl (lv_at hl 1 rfl) ?_
      obtain ⟨c40, hf⟩ := ck_t hf
      refine va_iald (f := (aS ct 7 x1 q7) 7) hx hb hK hP 7 0 (gX3_7 _ _ _ _ _) rfl (inb_in c40) dX3_turn_40 ?_
      refine lv_iconst (v := 2) hx hb dX3_turn_41 (by decide) ?_
      refine lv_icmp_eq (tgt := 61) hx hb dX3_turn_42 (by decide) (fun c42 => ?_) (fun c42 => ?_)
      · have hf := if_t c42 hf
        exact B61 _ _ hf H locs hP hD hS ls (lv_sub hl [0, 1] rfl)
      · have hf := if_f c42 hf
        refine lv_aload_n hx hb dX3_turn_45 rfl (lv_at hl 0 rfl) ?_
        refine ld_f S iX3 hK hP 0 8 (.ref (A 8)) (gX3_0 _ _ _ _ _) rfl (by decide) k34 rfl rfl dX3_turn_46 ?_
        refine lv_iload_n hx hb dX3_turn_49 rfl (lv_at hl 1 rfl) ?_
        refine lv_iconst (v := 0) hx hb dX3_turn_50 (by decide) ?_
        obtain ⟨c51, hf⟩ := ck_t hf
        refine st_i hx hb hK hP hD hS 8 0 (sX3_8 _ _ _ _ _ _ _) (gX3_8 _ _ _ _ _) rfl c51 dX3_turn_51 (fun H locs hP hD hS => ?_)
        refine lv_aload_n hx hb dX3_turn_52 rfl (lv_at hl 0 rfl) ?_
        refine lv_iload_n hx hb dX3_turn_53 rfl (lv_at hl 1 rfl) ?_
        refine lv_iconst (v := 0) hx hb dX3_turn_54 (by decide) ?_
        obtain ⟨q55, h55, hf⟩ := bd_t hf
        refine cl_v (va_runV (As := [.int x1, .int 0]) (rest := []) S (mX3_turnTo l D cI cZ A (aS (aS ct 7 x1 q7) 8 x1 0) cw x1 0 H.size q55 h55) (cwV 2 hts gX3_turn_X3_turnTo rfl rfl rfl (by decide +kernel) ⟨Nat.le_of_ble_eq_true rfl, Nat.le_of_ble_eq_true rfl⟩) (mP_V (ci := 3) (Cut.self _ []) hP hD hK hG rfl (gX3_0 _ _ _ _ _)) rfl rfl hl.1 rfl (lv_room (Nat.le_of_ble_eq_true rfl)) dX3_turn_55 ⟨Nat.le_refl _, Nat.le_refl _⟩) (Cut.self _ _) hP hD hS hA (fun H locs hP hD hS => ?_)
        refine lv_goto (tgt := 103) hx hb dX3_turn_58 (by decide) ?_
        exact hR _ ls H locs _ (congrArg (fun q => (wX3 cI cZ A q cw)) (Option.some.inj hf)) dX3_turn_103 hP hD hS
  · have hf := if_t c21 hf
    exact hR _ ls H locs _ (congrArg (fun q => (wX3 cI cZ A q cw)) (Option.some.inj hf)) dX3_turn_24 hP hD hS
set_option maxHeartbeats 4000000 in
set_option maxRecDepth 100000 in
theorem mX3_isBetterThanHeld (l : Launch) (D : va_G) (cI cZ : ClassId) (A : Nat → Nat)  (ct : St) (cw : St) (x1 : Int32) (x2 : Int32) (sz : Nat) (res : Int32) (hf : fX3_isBetterThanHeld ct cw x1 x2 = some res) : Met l yX3_isBetterThanHeld wsX3_isBetterThanHeld ({ frames := 1, cells := 0, slots := 0, locals := 22 }) (mP D (tysX cI cZ) [.ref (A 0), .int x1, .int x2] (wX3 cI cZ A ct cw) sz) (mQi D res (wX3 cI cZ A ct cw) (wX3 cI cZ A ct cw) sz) 0 0 (va_A (wX3 cI cZ A ct cw) sz) := by
  refine mkM_i (cc := cX3_isBetterThanHeld) (maxL := 6) (own := RX3) (by decide +kernel) rfl rfl (Nat.le_of_ble_eq_true rfl) ?_
  intro p e s m args below meth c A0 Q S hK hG hA hR
  obtain ⟨hx, hb, hml, hown, hts⟩ := id S
  have k37 := hts (.fieldLink RX3 37 "SwitchFloor$Tree" "toldRoot" "[I") (by decide +kernel)
  have iX3 : ∀ w ∈ wsX30, w ∈ wsX3_isBetterThanHeld := by decide +kernel
  have k9 := hts (.fieldLink RX3 9 "SwitchFloor$Tree" "root" "[I") (by decide +kernel)
  have k40 := hts (.fieldLink RX3 40 "SwitchFloor$Tree" "toldCost" "[I") (by decide +kernel)
  have k55 := hts (.fieldLink RX3 55 "SwitchFloor$Tree" "wiring" "LSwitchFloor$Wiring;") (by decide +kernel)
  have k124 := hts (.fieldLink RX3 124 "SwitchFloor$Wiring" "cost" "[I") (by decide +kernel)
  have iX4 : ∀ w ∈ wsX40, w ∈ wsX3_isBetterThanHeld := by decide +kernel
  have k15 := hts (.fieldLink RX3 15 "SwitchFloor$Tree" "cost" "[I") (by decide +kernel)
  have k21 := hts (.fieldLink RX3 21 "SwitchFloor$Tree" "rootPort" "[I") (by decide +kernel)
  have k63 := hts (.fieldLink RX3 63 "SwitchFloor$Wiring" "peer" "[I") (by decide +kernel)
  have B72 : ∀ (x1 : Int32) (x3 : Int32), fX3_isBetterThanHeld_J72 ct cw x1 x3 = some res → Bk p l e ({ frames := 1, cells := 0, slots := 0, locals := 22 }) s m args below meth c Q A0 D 6 0 0 (wX3 cI cZ A ct cw) [(0, .ref (A 0)), (1, .int x1), (3, .int x3)] 72 [] := by
    intro x1 x3 hf
    unfold fX3_isBetterThanHeld_J72 at hf
    intro H locs hP hD hS ls hl
    refine lv_iload_n hx hb dX3_isBetterThanHeld_72 rfl (lv_at hl 2 rfl) ?_
    refine lv_aload_n hx hb dX3_isBetterThanHeld_73 rfl (lv_at hl 0 rfl) ?_
    refine ld_f S iX3 hK hP 0 2 (.ref (A 2)) (gX3_0 _ _ _ _ _) rfl (by decide) k15 rfl rfl dX3_isBetterThanHeld_74 ?_
    refine lv_iload_n hx hb dX3_isBetterThanHeld_77 rfl (lv_at hl 1 rfl) ?_
    obtain ⟨c78, hf⟩ := ck_t hf
    refine va_iald (f := ct 2) hx hb hK hP 2 0 (gX3_2 _ _ _ _ _) rfl (inb_in c78) dX3_isBetterThanHeld_78 ?_
    refine lv_icmp_ge (tgt := 86) hx hb dX3_isBetterThanHeld_79 (by decide) (fun c79 => ?_) (fun c79 => ?_)
    · have hf := if_t c79 hf
      refine lv_iconst (v := 0) hx hb dX3_isBetterThanHeld_86 (by decide) ?_
      exact hR _ ls H locs _ _ (congrArg (fun q => q) (Option.some.inj hf)) rfl (by decide) dX3_isBetterThanHeld_87 hP hD hS
    · have hf := if_f c79 hf
      refine lv_iconst (v := 1) hx hb dX3_isBetterThanHeld_82 (by decide) ?_
      refine lv_goto (tgt := 87) hx hb dX3_isBetterThanHeld_83 (by decide) ?_
      exact hR _ ls H locs _ _ (congrArg (fun q => q) (Option.some.inj hf)) rfl (by decide) dX3_isBetterThanHeld_87 hP hD hS
  intro H locs hP hD hS ls hl
  have hl : lv_has ls 6 [(0, .ref (A 0)), (1, .int x1), (2, .int x2)] := hl
  unfold fX3_isBetterThanHeld at hf
  refine lv_aload_n hx hb dX3_isBetterThanHeld_0 rfl (lv_at hl 0 rfl) ?_
  refine ld_f S iX3 hK hP 0 10 (.ref (A 9)) (gX3_0 _ _ _ _ _) rfl (by decide) k37 rfl rfl dX3_isBetterThanHeld_1 ?_
  refine lv_iload_n hx hb dX3_isBetterThanHeld_4 rfl (lv_at hl 2 rfl) ?_
  obtain ⟨c5, hf⟩ := ck_t hf
  refine va_iald (f := ct 10) hx hb hK hP 9 0 (gX3_9 _ _ _ _ _) rfl (inb_in c5) dX3_isBetterThanHeld_5 ?_
  refine lv_aload_n hx hb dX3_isBetterThanHeld_6 rfl (lv_at hl 0 rfl) ?_
  refine ld_f S iX3 hK hP 0 1 (.ref (A 1)) (gX3_0 _ _ _ _ _) rfl (by decide) k9 rfl rfl dX3_isBetterThanHeld_7 ?_
  refine lv_iload_n hx hb dX3_isBetterThanHeld_10 rfl (lv_at hl 1 rfl) ?_
  obtain ⟨c11, hf⟩ := ck_t hf
  refine va_iald (f := ct 1) hx hb hK hP 1 0 (gX3_1 _ _ _ _ _) rfl (inb_in c11) dX3_isBetterThanHeld_11 ?_
  refine lv_icmp_eq (tgt := 35) hx hb dX3_isBetterThanHeld_12 (by decide) (fun c12 => ?_) (fun c12 => ?_)
  · have hf := if_t c12 hf
    refine lv_aload_n hx hb dX3_isBetterThanHeld_35 rfl (lv_at hl 0 rfl) ?_
    refine ld_f S iX3 hK hP 0 11 (.ref (A 10)) (gX3_0 _ _ _ _ _) rfl (by decide) k40 rfl rfl dX3_isBetterThanHeld_36 ?_
    refine lv_iload_n hx hb dX3_isBetterThanHeld_39 rfl (lv_at hl 2 rfl) ?_
    obtain ⟨c40, hf⟩ := ck_t hf
    refine va_iald (f := ct 11) hx hb hK hP 10 0 (gX3_10 _ _ _ _ _) rfl (inb_in c40) dX3_isBetterThanHeld_40 ?_
    refine lv_aload_n hx hb dX3_isBetterThanHeld_41 rfl (lv_at hl 0 rfl) ?_
    refine ld_f S iX3 hK hP 0 0 (.ref (A 15)) (gX3_0 _ _ _ _ _) rfl (by decide) k55 rfl rfl dX3_isBetterThanHeld_42 ?_
    refine ld_f S iX4 hK hP 15 1 (.ref (A 17)) (gX3_15 _ _ _ _ _) rfl (by decide) k124 rfl rfl dX3_isBetterThanHeld_45 ?_
    refine lv_iload_n hx hb dX3_isBetterThanHeld_48 rfl (lv_at hl 2 rfl) ?_
    obtain ⟨c49, hf⟩ := ck_t hf
    refine va_iald (f := cw 1) hx hb hK hP 17 0 (gX3_17 _ _ _ _ _) rfl (inb_in c49) dX3_isBetterThanHeld_49 ?_
    refine lv_iadd hx hb dX3_isBetterThanHeld_50 ?_
    refine lv_istore_n (lv' := [(3, .int ((ct 11 x2.toNatClampNeg) + (cw 1 x2.toNatClampNeg))), (0, .ref (A 0)), (1, .int x1), (2, .int x2)]) hx hb dX3_isBetterThanHeld_51 rfl hl (by decide) rfl (fun ls hl => ?_)
    refine lv_iload_n hx hb dX3_isBetterThanHeld_52 rfl (lv_at hl 0 rfl) ?_
    refine lv_aload_n hx hb dX3_isBetterThanHeld_53 rfl (lv_at hl 1 rfl) ?_
    refine ld_f S iX3 hK hP 0 2 (.ref (A 2)) (gX3_0 _ _ _ _ _) rfl (by decide) k15 rfl rfl dX3_isBetterThanHeld_54 ?_
    refine lv_iload_n hx hb dX3_isBetterThanHeld_57 rfl (lv_at hl 2 rfl) ?_
    obtain ⟨c58, hf⟩ := ck_t hf
    refine va_iald (f := ct 2) hx hb hK hP 2 0 (gX3_2 _ _ _ _ _) rfl (inb_in c58) dX3_isBetterThanHeld_58 ?_
    refine lv_icmp_ne (tgt := 72) hx hb dX3_isBetterThanHeld_59 (by decide) (fun c59 => ?_) (fun c59 => ?_)
    · have hf := if_f c59 hf
      exact B72 _ _ hf H locs hP hD hS ls (lv_sub hl [1, 2, 0] rfl)
    · have hf := if_t c59 hf
      refine lv_aload_n hx hb dX3_isBetterThanHeld_62 rfl (lv_at hl 1 rfl) ?_
      refine ld_f S iX3 hK hP 0 4 (.ref (A 4)) (gX3_0 _ _ _ _ _) rfl (by decide) k21 rfl rfl dX3_isBetterThanHeld_63 ?_
      refine lv_iload_n hx hb dX3_isBetterThanHeld_66 rfl (lv_at hl 2 rfl) ?_
      obtain ⟨c67, hf⟩ := ck_t hf
      refine va_iald (f := ct 4) hx hb hK hP 4 0 (gX3_4 _ _ _ _ _) rfl (inb_in c67) dX3_isBetterThanHeld_67 ?_
      refine lv_iconst (v := (-1)) hx hb dX3_isBetterThanHeld_68 (by decide) ?_
      refine lv_icmp_ne (tgt := 88) hx hb dX3_isBetterThanHeld_69 (by decide) (fun c69 => ?_) (fun c69 => ?_)
      · have hf := if_f c69 hf
        refine lv_aload_n hx hb dX3_isBetterThanHeld_88 rfl (lv_at hl 1 rfl) ?_
        refine ld_f S iX3 hK hP 0 0 (.ref (A 15)) (gX3_0 _ _ _ _ _) rfl (by decide) k55 rfl rfl dX3_isBetterThanHeld_89 ?_
        refine ld_f S iX4 hK hP 15 0 (.ref (A 16)) (gX3_15 _ _ _ _ _) rfl (by decide) k63 rfl rfl dX3_isBetterThanHeld_92 ?_
        refine lv_iload_n hx hb dX3_isBetterThanHeld_95 rfl (lv_at hl 3 rfl) ?_
        obtain ⟨c96, hf⟩ := ck_t hf
        refine va_iald (f := cw 0) hx hb hK hP 16 0 (gX3_16 _ _ _ _ _) rfl (inb_in c96) dX3_isBetterThanHeld_96 ?_
        refine lv_istore (lv' := [(4, .int (cw 0 x2.toNatClampNeg)), (3, .int ((ct 11 x2.toNatClampNeg) + (cw 1 x2.toNatClampNeg))), (0, .ref (A 0)), (1, .int x1), (2, .int x2)]) hx hb dX3_isBetterThanHeld_97 hl (by decide) rfl (fun ls hl => ?_)
        refine lv_aload_n hx hb dX3_isBetterThanHeld_99 rfl (lv_at hl 2 rfl) ?_
        refine ld_f S iX3 hK hP 0 0 (.ref (A 15)) (gX3_0 _ _ _ _ _) rfl (by decide) k55 rfl rfl dX3_isBetterThanHeld_100 ?_
        refine ld_f S iX4 hK hP 15 0 (.ref (A 16)) (gX3_15 _ _ _ _ _) rfl (by decide) k63 rfl rfl dX3_isBetterThanHeld_103 ?_
        refine lv_iload_n hx hb dX3_isBetterThanHeld_106 rfl (lv_at hl 3 rfl) ?_
        refine lv_aload_n hx hb dX3_isBetterThanHeld_107 rfl (lv_at hl 2 rfl) ?_
        refine ld_f S iX3 hK hP 0 4 (.ref (A 4)) (gX3_0 _ _ _ _ _) rfl (by decide) k21 rfl rfl dX3_isBetterThanHeld_108 ?_
        refine lv_iload_n hx hb dX3_isBetterThanHeld_111 rfl (lv_at hl 3 rfl) ?_
        obtain ⟨c112, hf⟩ := ck_t hf
        refine va_iald (f := ct 4) hx hb hK hP 4 0 (gX3_4 _ _ _ _ _) rfl (inb_in c112) dX3_isBetterThanHeld_112 ?_
        obtain ⟨q113, h113, hf⟩ := bd_t hf
        refine cl_i (va_runSN (As := [.int x1, .int (ct 4 x1.toNatClampNeg)]) (rest := [.ref (A 16)]) S (mX5_spotOf l D cI cZ x1 (ct 4 x1.toNatClampNeg) H.size q113 h113) ⟨va_cnB 2 hts gX3_isBetterThanHeld_X5_spotOf_n110 rfl rfl rfl hG.1 (hts (.initialized RX5) (by decide +kernel)) (by decide +kernel) ⟨Nat.le_of_ble_eq_true rfl, Nat.le_of_ble_eq_true rfl⟩, hts (.static yX5_spotOf) (by decide +kernel), trivial⟩ (mP_S (Cut.nil _) hP hD hK hG) rfl rfl hl.1 rfl (lv_room (Nat.le_of_ble_eq_true rfl)) dX3_isBetterThanHeld_113 ⟨Nat.le_refl _, Nat.le_refl _⟩) (Cut.nil _) hP hD hS hA (fun H locs hP hD hS => ?_)
        obtain ⟨c116, hf⟩ := ck_t hf
        refine va_iald (f := cw 0) hx hb hK hP 16 0 (gX3_16 _ _ _ _ _) rfl (inb_in c116) dX3_isBetterThanHeld_116 ?_
        refine lv_istore (lv' := [(5, .int (cw 0 q113.toNatClampNeg)), (4, .int (cw 0 x2.toNatClampNeg)), (3, .int ((ct 11 x2.toNatClampNeg) + (cw 1 x2.toNatClampNeg))), (0, .ref (A 0)), (1, .int x1), (2, .int x2)]) hx hb dX3_isBetterThanHeld_117 hl (by decide) rfl (fun ls hl => ?_)
        refine lv_iload hx hb dX3_isBetterThanHeld_119 (lv_at hl 1 rfl) ?_
        refine lv_iconst (v := 5) hx hb dX3_isBetterThanHeld_121 (by decide) ?_
        refine lv_idiv hx hb dX3_isBetterThanHeld_122 (by decide) ?_
        refine lv_iload hx hb dX3_isBetterThanHeld_123 (lv_at hl 0 rfl) ?_
        refine lv_iconst (v := 5) hx hb dX3_isBetterThanHeld_125 (by decide) ?_
        refine lv_idiv hx hb dX3_isBetterThanHeld_126 (by decide) ?_
        refine lv_icmp_eq (tgt := 146) hx hb dX3_isBetterThanHeld_127 (by decide) (fun c127 => ?_) (fun c127 => ?_)
        · have hf := if_t c127 hf
          refine lv_iload hx hb dX3_isBetterThanHeld_146 (lv_at hl 1 rfl) ?_
          refine lv_iload hx hb dX3_isBetterThanHeld_148 (lv_at hl 0 rfl) ?_
          refine lv_icmp_ge (tgt := 157) hx hb dX3_isBetterThanHeld_150 (by decide) (fun c150 => ?_) (fun c150 => ?_)
          · have hf := if_t c150 hf
            refine lv_iconst (v := 0) hx hb dX3_isBetterThanHeld_157 (by decide) ?_
            exact hR _ ls H locs _ _ (congrArg (fun q => q) (Option.some.inj hf)) rfl (by decide) dX3_isBetterThanHeld_158 hP hD hS
          · have hf := if_f c150 hf
            refine lv_iconst (v := 1) hx hb dX3_isBetterThanHeld_153 (by decide) ?_
            refine lv_goto (tgt := 158) hx hb dX3_isBetterThanHeld_154 (by decide) ?_
            exact hR _ ls H locs _ _ (congrArg (fun q => q) (Option.some.inj hf)) rfl (by decide) dX3_isBetterThanHeld_158 hP hD hS
        · have hf := if_f c127 hf
          refine lv_aload_n hx hb dX3_isBetterThanHeld_130 rfl (lv_at hl 3 rfl) ?_
          refine ld_f S iX3 hK hP 0 0 (.ref (A 15)) (gX3_0 _ _ _ _ _) rfl (by decide) k55 rfl rfl dX3_isBetterThanHeld_131 ?_
          refine lv_iload hx hb dX3_isBetterThanHeld_134 (lv_at hl 1 rfl) ?_
          refine lv_iconst (v := 5) hx hb dX3_isBetterThanHeld_136 (by decide) ?_
          refine lv_idiv hx hb dX3_isBetterThanHeld_137 (by decide) ?_
          refine lv_iload hx hb dX3_isBetterThanHeld_138 (lv_at hl 0 rfl) ?_
          refine lv_iconst (v := 5) hx hb dX3_isBetterThanHeld_140 (by decide) ?_
          refine lv_idiv hx hb dX3_isBetterThanHeld_141 (by decide) ?_
          obtain ⟨q142, h142, hf⟩ := bd_t hf
          refine cl_i (va_runV (As := [.int ((cw 0 x2.toNatClampNeg) / 5), .int ((cw 0 q113.toNatClampNeg) / 5)]) (rest := []) S (mX4_isBetterName l D cI cZ (aX3_X4_1 A) cw ((cw 0 x2.toNatClampNeg) / 5) ((cw 0 q113.toNatClampNeg) / 5) H.size q142 h142) (cwV 2 hts gX3_isBetterThanHeld_X4_isBetterName rfl rfl rfl (by decide +kernel) ⟨Nat.le_of_ble_eq_true rfl, Nat.le_of_ble_eq_true rfl⟩) (mP_V (ci := 4) (cutX3_X4_1 _ _ _ _ _ st0) hP hD hK hG rfl (gX4_0 _ _ _ _)) rfl rfl hl.1 rfl (lv_room (Nat.le_of_ble_eq_true rfl)) dX3_isBetterThanHeld_142 ⟨Nat.le_refl _, Nat.le_refl _⟩) (cutX3_X4_1 _ _ _ _ _ _) hP hD hS hA (fun H locs hP hD hS => ?_)
          obtain ⟨c145, hf⟩ := ck_t hf
          exact hR _ ls H locs _ _ (congrArg (fun q => q) (Option.some.inj hf)) rfl (isb_n c145) dX3_isBetterThanHeld_145 hP hD hS
      · have hf := if_t c69 hf
        exact B72 _ _ hf H locs hP hD hS ls (lv_sub hl [1, 2, 0] rfl)
  · have hf := if_f c12 hf
    refine lv_aload_n hx hb dX3_isBetterThanHeld_15 rfl (lv_at hl 0 rfl) ?_
    refine ld_f S iX3 hK hP 0 0 (.ref (A 15)) (gX3_0 _ _ _ _ _) rfl (by decide) k55 rfl rfl dX3_isBetterThanHeld_16 ?_
    refine lv_aload_n hx hb dX3_isBetterThanHeld_19 rfl (lv_at hl 0 rfl) ?_
    refine ld_f S iX3 hK hP 0 10 (.ref (A 9)) (gX3_0 _ _ _ _ _) rfl (by decide) k37 rfl rfl dX3_isBetterThanHeld_20 ?_
    refine lv_iload_n hx hb dX3_isBetterThanHeld_23 rfl (lv_at hl 2 rfl) ?_
    obtain ⟨c24, hf⟩ := ck_t hf
    refine va_iald (f := ct 10) hx hb hK hP 9 0 (gX3_9 _ _ _ _ _) rfl (inb_in c24) dX3_isBetterThanHeld_24 ?_
    refine lv_aload_n hx hb dX3_isBetterThanHeld_25 rfl (lv_at hl 0 rfl) ?_
    refine ld_f S iX3 hK hP 0 1 (.ref (A 1)) (gX3_0 _ _ _ _ _) rfl (by decide) k9 rfl rfl dX3_isBetterThanHeld_26 ?_
    refine lv_iload_n hx hb dX3_isBetterThanHeld_29 rfl (lv_at hl 1 rfl) ?_
    obtain ⟨c30, hf⟩ := ck_t hf
    refine va_iald (f := ct 1) hx hb hK hP 1 0 (gX3_1 _ _ _ _ _) rfl (inb_in c30) dX3_isBetterThanHeld_30 ?_
    obtain ⟨q31, h31, hf⟩ := bd_t hf
    refine cl_i (va_runV (As := [.int (ct 10 x2.toNatClampNeg), .int (ct 1 x1.toNatClampNeg)]) (rest := []) S (mX4_isBetterName l D cI cZ (aX3_X4_1 A) cw (ct 10 x2.toNatClampNeg) (ct 1 x1.toNatClampNeg) H.size q31 h31) (cwV 2 hts gX3_isBetterThanHeld_X4_isBetterName rfl rfl rfl (by decide +kernel) ⟨Nat.le_of_ble_eq_true rfl, Nat.le_of_ble_eq_true rfl⟩) (mP_V (ci := 4) (cutX3_X4_1 _ _ _ _ _ st0) hP hD hK hG rfl (gX4_0 _ _ _ _)) rfl rfl hl.1 rfl (lv_room (Nat.le_of_ble_eq_true rfl)) dX3_isBetterThanHeld_31 ⟨Nat.le_refl _, Nat.le_refl _⟩) (cutX3_X4_1 _ _ _ _ _ _) hP hD hS hA (fun H locs hP hD hS => ?_)
    obtain ⟨c34, hf⟩ := ck_t hf
    exact hR _ ls H locs _ _ (congrArg (fun q => q) (Option.some.inj hf)) rfl (isb_n c34) dX3_isBetterThanHeld_34 hP hD hS
set_option maxHeartbeats 4000000 in
set_option maxRecDepth 100000 in
theorem mX3_offer (l : Launch) (D : va_G) (cI cZ : ClassId) (A : Nat → Nat)  (ct : St) (cw : St) (x1 : Int32) (x2 : Int32) (sz : Nat) (res : St) (hf : fX3_offer ct cw x1 x2 = some res) : Met l yX3_offer wsX3_offer ({ frames := 2, cells := 0, slots := 0, locals := 47 }) (mP D (tysX cI cZ) [.ref (A 0), .int x1, .int x2] (wX3 cI cZ A ct cw) sz) (mQv D (wX3 cI cZ A ct cw) (wX3 cI cZ A res cw) sz) 0 0 (va_A (wX3 cI cZ A ct cw) sz) := by
  refine mkM_v (cc := cX3_offer) (maxL := 3) (own := RX3) (by decide +kernel) rfl rfl (Nat.le_of_ble_eq_true rfl) ?_
  intro p e s m args below meth c A0 Q S hK hG hA hR
  obtain ⟨hx, hb, hml, hown, hts⟩ := id S
  have k37 := hts (.fieldLink RX3 37 "SwitchFloor$Tree" "toldRoot" "[I") (by decide +kernel)
  have iX3 : ∀ w ∈ wsX30, w ∈ wsX3_offer := by decide +kernel
  have k43 := hts (.fieldLink RX3 43 "SwitchFloor$Tree" "toldHops" "[I") (by decide +kernel)
  have k9 := hts (.fieldLink RX3 9 "SwitchFloor$Tree" "root" "[I") (by decide +kernel)
  have k15 := hts (.fieldLink RX3 15 "SwitchFloor$Tree" "cost" "[I") (by decide +kernel)
  have k40 := hts (.fieldLink RX3 40 "SwitchFloor$Tree" "toldCost" "[I") (by decide +kernel)
  have k55 := hts (.fieldLink RX3 55 "SwitchFloor$Tree" "wiring" "LSwitchFloor$Wiring;") (by decide +kernel)
  have k124 := hts (.fieldLink RX3 124 "SwitchFloor$Wiring" "cost" "[I") (by decide +kernel)
  have iX4 : ∀ w ∈ wsX40, w ∈ wsX3_offer := by decide +kernel
  have k18 := hts (.fieldLink RX3 18 "SwitchFloor$Tree" "hops" "[I") (by decide +kernel)
  have k21 := hts (.fieldLink RX3 21 "SwitchFloor$Tree" "rootPort" "[I") (by decide +kernel)
  intro H locs hP hD hS ls hl
  have hl : lv_has ls 3 [(0, .ref (A 0)), (1, .int x1), (2, .int x2)] := hl
  unfold fX3_offer at hf
  refine lv_aload_n hx hb dX3_offer_0 rfl (lv_at hl 0 rfl) ?_
  refine ld_f S iX3 hK hP 0 10 (.ref (A 9)) (gX3_0 _ _ _ _ _) rfl (by decide) k37 rfl rfl dX3_offer_1 ?_
  refine lv_iload_n hx hb dX3_offer_4 rfl (lv_at hl 2 rfl) ?_
  obtain ⟨c5, hf⟩ := ck_t hf
  refine va_iald (f := ct 10) hx hb hK hP 9 0 (gX3_9 _ _ _ _ _) rfl (inb_in c5) dX3_offer_5 ?_
  refine lv_iconst (v := (-1)) hx hb dX3_offer_6 (by decide) ?_
  refine lv_icmp_eq (tgt := 30) hx hb dX3_offer_7 (by decide) (fun c7 => ?_) (fun c7 => ?_)
  · have hf := if_t c7 hf
    exact hR _ ls H locs _ (congrArg (fun q => (wX3 cI cZ A q cw)) (Option.some.inj hf)) dX3_offer_30 hP hD hS
  · have hf := if_f c7 hf
    refine lv_aload_n hx hb dX3_offer_10 rfl (lv_at hl 0 rfl) ?_
    refine ld_f S iX3 hK hP 0 12 (.ref (A 11)) (gX3_0 _ _ _ _ _) rfl (by decide) k43 rfl rfl dX3_offer_11 ?_
    refine lv_iload_n hx hb dX3_offer_14 rfl (lv_at hl 2 rfl) ?_
    obtain ⟨c15, hf⟩ := ck_t hf
    refine va_iald (f := ct 12) hx hb hK hP 11 0 (gX3_11 _ _ _ _ _) rfl (inb_in c15) dX3_offer_15 ?_
    refine lv_bipush (v := 7) hx hb dX3_offer_16 (by decide) ?_
    refine lv_icmp_ge (tgt := 30) hx hb dX3_offer_18 (by decide) (fun c18 => ?_) (fun c18 => ?_)
    · have hf := if_t c18 hf
      exact hR _ ls H locs _ (congrArg (fun q => (wX3 cI cZ A q cw)) (Option.some.inj hf)) dX3_offer_30 hP hD hS
    · have hf := if_f c18 hf
      refine lv_aload_n hx hb dX3_offer_21 rfl (lv_at hl 0 rfl) ?_
      refine lv_iload_n hx hb dX3_offer_22 rfl (lv_at hl 1 rfl) ?_
      refine lv_iload_n hx hb dX3_offer_23 rfl (lv_at hl 2 rfl) ?_
      obtain ⟨q24, h24, hf⟩ := bd_t hf
      refine cl_i (va_runV (As := [.int x1, .int x2]) (rest := []) S (mX3_isBetterThanHeld l D cI cZ A ct cw x1 x2 H.size q24 h24) (cwV 2 hts gX3_offer_X3_isBetterThanHeld rfl rfl rfl (by decide +kernel) ⟨Nat.le_of_ble_eq_true rfl, Nat.le_of_ble_eq_true rfl⟩) (mP_V (ci := 3) (Cut.self _ []) hP hD hK hG rfl (gX3_0 _ _ _ _ _)) rfl rfl hl.1 rfl (lv_room (Nat.le_of_ble_eq_true rfl)) dX3_offer_24 ⟨Nat.le_refl _, Nat.le_refl _⟩) (Cut.self _ _) hP hD hS hA (fun H locs hP hD hS => ?_)
      refine lv_if_ne (tgt := 31) hx hb dX3_offer_27 (by decide) (fun c27 => ?_) (fun c27 => ?_)
      · have hf := if_f c27 hf
        refine lv_aload_n hx hb dX3_offer_31 rfl (lv_at hl 0 rfl) ?_
        refine ld_f S iX3 hK hP 0 1 (.ref (A 1)) (gX3_0 _ _ _ _ _) rfl (by decide) k9 rfl rfl dX3_offer_32 ?_
        refine lv_iload_n hx hb dX3_offer_35 rfl (lv_at hl 1 rfl) ?_
        refine lv_aload_n hx hb dX3_offer_36 rfl (lv_at hl 0 rfl) ?_
        refine ld_f S iX3 hK hP 0 10 (.ref (A 9)) (gX3_0 _ _ _ _ _) rfl (by decide) k37 rfl rfl dX3_offer_37 ?_
        refine lv_iload_n hx hb dX3_offer_40 rfl (lv_at hl 2 rfl) ?_
        obtain ⟨c41, hf⟩ := ck_t hf
        refine va_iald (f := ct 10) hx hb hK hP 9 0 (gX3_9 _ _ _ _ _) rfl (inb_in c41) dX3_offer_41 ?_
        obtain ⟨c42, hf⟩ := ck_t hf
        refine st_i hx hb hK hP hD hS 1 0 (sX3_1 _ _ _ _ _ _ _) (gX3_1 _ _ _ _ _) rfl c42 dX3_offer_42 (fun H locs hP hD hS => ?_)
        refine lv_aload_n hx hb dX3_offer_43 rfl (lv_at hl 0 rfl) ?_
        refine ld_f S iX3 hK hP 0 2 (.ref (A 2)) (gX3_0 _ _ _ _ _) rfl (by decide) k15 rfl rfl dX3_offer_44 ?_
        refine lv_iload_n hx hb dX3_offer_47 rfl (lv_at hl 1 rfl) ?_
        refine lv_aload_n hx hb dX3_offer_48 rfl (lv_at hl 0 rfl) ?_
        refine ld_f S iX3 hK hP 0 11 (.ref (A 10)) (gX3_0 _ _ _ _ _) rfl (by decide) k40 rfl rfl dX3_offer_49 ?_
        refine lv_iload_n hx hb dX3_offer_52 rfl (lv_at hl 2 rfl) ?_
        obtain ⟨c53, hf⟩ := ck_t hf
        refine va_iald (f := ct 11) hx hb hK hP 10 0 (gX3_10 _ _ _ _ _) rfl (inb_in c53) dX3_offer_53 ?_
        refine lv_aload_n hx hb dX3_offer_54 rfl (lv_at hl 0 rfl) ?_
        refine ld_f S iX3 hK hP 0 0 (.ref (A 15)) (gX3_0 _ _ _ _ _) rfl (by decide) k55 rfl rfl dX3_offer_55 ?_
        refine ld_f S iX4 hK hP 15 1 (.ref (A 17)) (gX3_15 _ _ _ _ _) rfl (by decide) k124 rfl rfl dX3_offer_58 ?_
        refine lv_iload_n hx hb dX3_offer_61 rfl (lv_at hl 2 rfl) ?_
        obtain ⟨c62, hf⟩ := ck_t hf
        refine va_iald (f := cw 1) hx hb hK hP 17 0 (gX3_17 _ _ _ _ _) rfl (inb_in c62) dX3_offer_62 ?_
        refine lv_iadd hx hb dX3_offer_63 ?_
        obtain ⟨c64, hf⟩ := ck_t hf
        refine st_i hx hb hK hP hD hS 2 0 (sX3_2 _ _ _ _ _ _ _) (gX3_2 _ _ _ _ _) rfl c64 dX3_offer_64 (fun H locs hP hD hS => ?_)
        refine lv_aload_n hx hb dX3_offer_65 rfl (lv_at hl 0 rfl) ?_
        refine ld_f S iX3 hK hP 0 3 (.ref (A 3)) (gX3_0 _ _ _ _ _) rfl (by decide) k18 rfl rfl dX3_offer_66 ?_
        refine lv_iload_n hx hb dX3_offer_69 rfl (lv_at hl 1 rfl) ?_
        refine lv_aload_n hx hb dX3_offer_70 rfl (lv_at hl 0 rfl) ?_
        refine ld_f S iX3 hK hP 0 12 (.ref (A 11)) (gX3_0 _ _ _ _ _) rfl (by decide) k43 rfl rfl dX3_offer_71 ?_
        refine lv_iload_n hx hb dX3_offer_74 rfl (lv_at hl 2 rfl) ?_
        obtain ⟨c75, hf⟩ := ck_t hf
        refine va_iald (f := ct 12) hx hb hK hP 11 0 (gX3_11 _ _ _ _ _) rfl (inb_in c75) dX3_offer_75 ?_
        refine lv_iconst (v := 1) hx hb dX3_offer_76 (by decide) ?_
        refine lv_iadd hx hb dX3_offer_77 ?_
        obtain ⟨c78, hf⟩ := ck_t hf
        refine st_i hx hb hK hP hD hS 3 0 (sX3_3 _ _ _ _ _ _ _) (gX3_3 _ _ _ _ _) rfl c78 dX3_offer_78 (fun H locs hP hD hS => ?_)
        refine lv_aload_n hx hb dX3_offer_79 rfl (lv_at hl 0 rfl) ?_
        refine ld_f S iX3 hK hP 0 4 (.ref (A 4)) (gX3_0 _ _ _ _ _) rfl (by decide) k21 rfl rfl dX3_offer_80 ?_
        refine lv_iload_n hx hb dX3_offer_83 rfl (lv_at hl 1 rfl) ?_
        refine lv_iload_n hx hb dX3_offer_84 rfl (lv_at hl 2 rfl) ?_
        refine lv_iconst (v := 5) hx hb dX3_offer_85 (by decide) ?_
        refine lv_irem hx hb dX3_offer_86 (by decide) ?_
        obtain ⟨c87, hf⟩ := ck_t hf
        refine st_i hx hb hK hP hD hS 4 0 (sX3_4 _ _ _ _ _ _ _) (gX3_4 _ _ _ _ _) rfl c87 dX3_offer_87 (fun H locs hP hD hS => ?_)
        exact hR _ ls H locs _ (congrArg (fun q => (wX3 cI cZ A q cw)) (Option.some.inj hf)) dX3_offer_88 hP hD hS
      · have hf := if_t c27 hf
        exact hR _ ls H locs _ (congrArg (fun q => (wX3 cI cZ A q cw)) (Option.some.inj hf)) dX3_offer_30 hP hD hS
set_option maxHeartbeats 4000000 in
set_option maxRecDepth 100000 in
theorem mX3_takeBest (l : Launch) (D : va_G) (cI cZ : ClassId) (A : Nat → Nat)  (ct : St) (cw : St) (x1 : Int32) (sz : Nat) (res : St) (hf : fX3_takeBest ct cw x1 = some res) : Met l yX3_takeBest wsX3_takeBest ({ frames := 3, cells := 0, slots := 0, locals := 69 }) (mP D (tysX cI cZ) [.ref (A 0), .int x1] (wX3 cI cZ A ct cw) sz) (mQv D (wX3 cI cZ A ct cw) (wX3 cI cZ A res cw) sz) 0 0 (va_A (wX3 cI cZ A ct cw) sz) := by
  refine mkM_v (cc := cX3_takeBest) (maxL := 5) (own := RX3) (by decide +kernel) rfl rfl (Nat.le_of_ble_eq_true rfl) ?_
  intro p e s m args below meth c A0 Q S hK hG hA hR
  obtain ⟨hx, hb, hml, hown, hts⟩ := id S
  have k9 := hts (.fieldLink RX3 9 "SwitchFloor$Tree" "root" "[I") (by decide +kernel)
  have iX3 : ∀ w ∈ wsX30, w ∈ wsX3_takeBest := by decide +kernel
  have k15 := hts (.fieldLink RX3 15 "SwitchFloor$Tree" "cost" "[I") (by decide +kernel)
  have k18 := hts (.fieldLink RX3 18 "SwitchFloor$Tree" "hops" "[I") (by decide +kernel)
  have k21 := hts (.fieldLink RX3 21 "SwitchFloor$Tree" "rootPort" "[I") (by decide +kernel)
  have k55 := hts (.fieldLink RX3 55 "SwitchFloor$Tree" "wiring" "LSwitchFloor$Wiring;") (by decide +kernel)
  have k103 := hts (.fieldLink RX3 103 "SwitchFloor$Wiring" "guard" "[I") (by decide +kernel)
  have iX4 : ∀ w ∈ wsX40, w ∈ wsX3_takeBest := by decide +kernel
  have k37 := hts (.fieldLink RX3 37 "SwitchFloor$Tree" "toldRoot" "[I") (by decide +kernel)
  have B78 : ∀ (x1 : Int32) (x2 : Int32) (x3 : Int32) (ct : St) (x4 : Int32), fX3_takeBest_L78 cw x1 x2 x3 ct x4 = some res → Bk p l e ({ frames := 3, cells := 0, slots := 0, locals := 69 }) s m args below meth c Q A0 D 5 0 0 (wX3 cI cZ A ct cw) [(0, .ref (A 0)), (1, .int x1), (2, .int x2), (3, .int x3), (4, .int x4)] 78 [] := by
    intro x1 x2 x3 ct x4 hf
    refine loop_ind (step := (fun k a => fX3_takeBest_S78 k cw x1 x2 x3 (a.1) (a.2))) (fun a => Bk p l e ({ frames := 3, cells := 0, slots := 0, locals := 69 }) s m args below meth c Q A0 D 5 0 0 (wX3 cI cZ A (a.1) cw) [(0, .ref (A 0)), (1, .int x1), (2, .int x2), (3, .int x3), (4, .int (a.2))] 78 []) ?_ _ _ hf
    clear hf
    intro k78 hk78 a hf
    obtain ⟨ct_, x4_⟩ := a
    clear ct x4
    obtain ⟨ct, e_⟩ : ∃ z, z = ct_ := ⟨_, rfl⟩
    subst e_
    obtain ⟨x4, e_⟩ : ∃ z, z = x4_ := ⟨_, rfl⟩
    subst e_
    have hf : fX3_takeBest_S78 k78 cw x1 x2 x3 ct x4 = some res := hf
    show Bk p l e ({ frames := 3, cells := 0, slots := 0, locals := 69 }) s m args below meth c Q A0 D 5 0 0 (wX3 cI cZ A ct cw) [(0, .ref (A 0)), (1, .int x1), (2, .int x2), (3, .int x3), (4, .int x4)] 78 []
    unfold fX3_takeBest_S78 at hf
    intro H locs hP hD hS ls hl
    refine lv_iload hx hb dX3_takeBest_78 (lv_at hl 4 rfl) ?_
    refine lv_iload_n hx hb dX3_takeBest_80 rfl (lv_at hl 2 rfl) ?_
    refine lv_iconst (v := 5) hx hb dX3_takeBest_81 (by decide) ?_
    refine lv_iadd hx hb dX3_takeBest_82 ?_
    refine lv_icmp_ge (tgt := 142) hx hb dX3_takeBest_83 (by decide) (fun c83 => ?_) (fun c83 => ?_)
    · have hf := if_t c83 hf
      exact hR _ ls H locs _ (congrArg (fun q => (wX3 cI cZ A q cw)) (Option.some.inj hf)) dX3_takeBest_142 hP hD hS
    · have hf := if_f c83 hf
      refine lv_aload_n hx hb dX3_takeBest_86 rfl (lv_at hl 0 rfl) ?_
      refine ld_f S iX3 hK hP 0 0 (.ref (A 15)) (gX3_0 _ _ _ _ _) rfl (by decide) k55 rfl rfl dX3_takeBest_87 ?_
      refine ld_f S iX4 hK hP 15 3 (.ref (A 19)) (gX3_15 _ _ _ _ _) rfl (by decide) k103 rfl rfl dX3_takeBest_90 ?_
      refine lv_iload hx hb dX3_takeBest_93 (lv_at hl 4 rfl) ?_
      obtain ⟨c95, hf⟩ := ck_t hf
      refine va_iald (f := cw 3) hx hb hK hP 19 0 (gX3_19 _ _ _ _ _) rfl (inb_in c95) dX3_takeBest_95 ?_
      refine lv_iconst (v := 1) hx hb dX3_takeBest_96 (by decide) ?_
      refine lv_icmp_ne (tgt := 136) hx hb dX3_takeBest_97 (by decide) (fun c97 => ?_) (fun c97 => ?_)
      · have hf := if_f c97 hf
        refine lv_iinc (v := x4 + 1) (lv' := [(4, .int (x4 + 1)), (0, .ref (A 0)), (1, .int x1), (2, .int x2), (3, .int x3)]) hx hb dX3_takeBest_136 hl (k := 4) rfl rfl (by decide) rfl (fun ls hl => ?_)
        refine lv_goto (tgt := 78) hx hb dX3_takeBest_139 (by decide) ?_
        exact hk78 _ hf H locs hP hD hS ls (lv_sub hl [1, 2, 3, 4, 0] rfl)
      · have hf := if_t c97 hf
        refine lv_aload_n hx hb dX3_takeBest_100 rfl (lv_at hl 0 rfl) ?_
        refine ld_f S iX3 hK hP 0 10 (.ref (A 9)) (gX3_0 _ _ _ _ _) rfl (by decide) k37 rfl rfl dX3_takeBest_101 ?_
        refine lv_iload hx hb dX3_takeBest_104 (lv_at hl 4 rfl) ?_
        obtain ⟨c106, hf⟩ := ck_t hf
        refine va_iald (f := ct 10) hx hb hK hP 9 0 (gX3_9 _ _ _ _ _) rfl (inb_in c106) dX3_takeBest_106 ?_
        refine lv_iconst (v := (-1)) hx hb dX3_takeBest_107 (by decide) ?_
        refine lv_icmp_eq (tgt := 136) hx hb dX3_takeBest_108 (by decide) (fun c108 => ?_) (fun c108 => ?_)
        · have hf := if_t c108 hf
          refine lv_iinc (v := x4 + 1) (lv' := [(4, .int (x4 + 1)), (0, .ref (A 0)), (1, .int x1), (2, .int x2), (3, .int x3)]) hx hb dX3_takeBest_136 hl (k := 4) rfl rfl (by decide) rfl (fun ls hl => ?_)
          refine lv_goto (tgt := 78) hx hb dX3_takeBest_139 (by decide) ?_
          exact hk78 _ hf H locs hP hD hS ls (lv_sub hl [1, 2, 3, 4, 0] rfl)
        · have hf := if_f c108 hf
          refine lv_aload_n hx hb dX3_takeBest_111 rfl (lv_at hl 0 rfl) ?_
          refine ld_f S iX3 hK hP 0 0 (.ref (A 15)) (gX3_0 _ _ _ _ _) rfl (by decide) k55 rfl rfl dX3_takeBest_112 ?_
          refine lv_aload_n hx hb dX3_takeBest_115 rfl (lv_at hl 0 rfl) ?_
          refine ld_f S iX3 hK hP 0 10 (.ref (A 9)) (gX3_0 _ _ _ _ _) rfl (by decide) k37 rfl rfl dX3_takeBest_116 ?_
          refine lv_iload hx hb dX3_takeBest_119 (lv_at hl 4 rfl) ?_
          obtain ⟨c121, hf⟩ := ck_t hf
          refine va_iald (f := ct 10) hx hb hK hP 9 0 (gX3_9 _ _ _ _ _) rfl (inb_in c121) dX3_takeBest_121 ?_
          refine lv_iload_n hx hb dX3_takeBest_122 rfl (lv_at hl 3 rfl) ?_
          obtain ⟨q123, h123, hf⟩ := bd_t hf
          refine cl_i (va_runV (As := [.int (ct 10 x4.toNatClampNeg), .int x3]) (rest := []) S (mX4_isBetterName l D cI cZ (aX3_X4_1 A) cw (ct 10 x4.toNatClampNeg) x3 H.size q123 h123) (cwV 2 hts gX3_takeBest_X4_isBetterName rfl rfl rfl (by decide +kernel) ⟨Nat.le_of_ble_eq_true rfl, Nat.le_of_ble_eq_true rfl⟩) (mP_V (ci := 4) (cutX3_X4_1 _ _ _ _ _ st0) hP hD hK hG rfl (gX4_0 _ _ _ _)) rfl rfl hl.1 rfl (lv_room (Nat.le_of_ble_eq_true rfl)) dX3_takeBest_123 ⟨Nat.le_refl _, Nat.le_refl _⟩) (cutX3_X4_1 _ _ _ _ _ _) hP hD hS hA (fun H locs hP hD hS => ?_)
          refine lv_if_ne (tgt := 136) hx hb dX3_takeBest_126 (by decide) (fun c126 => ?_) (fun c126 => ?_)
          · have hf := if_f c126 hf
            refine lv_iinc (v := x4 + 1) (lv' := [(4, .int (x4 + 1)), (0, .ref (A 0)), (1, .int x1), (2, .int x2), (3, .int x3)]) hx hb dX3_takeBest_136 hl (k := 4) rfl rfl (by decide) rfl (fun ls hl => ?_)
            refine lv_goto (tgt := 78) hx hb dX3_takeBest_139 (by decide) ?_
            exact hk78 _ hf H locs hP hD hS ls (lv_sub hl [1, 2, 3, 4, 0] rfl)
          · have hf := if_t c126 hf
            refine lv_aload_n hx hb dX3_takeBest_129 rfl (lv_at hl 0 rfl) ?_
            refine lv_iload_n hx hb dX3_takeBest_130 rfl (lv_at hl 1 rfl) ?_
            refine lv_iload hx hb dX3_takeBest_131 (lv_at hl 4 rfl) ?_
            obtain ⟨q133, h133, hf⟩ := bd_t hf
            refine cl_v (va_runV (As := [.int x1, .int x4]) (rest := []) S (mX3_offer l D cI cZ A ct cw x1 x4 H.size q133 h133) (cwV 2 hts gX3_takeBest_X3_offer rfl rfl rfl (by decide +kernel) ⟨Nat.le_of_ble_eq_true rfl, Nat.le_of_ble_eq_true rfl⟩) (mP_V (ci := 3) (Cut.self _ []) hP hD hK hG rfl (gX3_0 _ _ _ _ _)) rfl rfl hl.1 rfl (lv_room (Nat.le_of_ble_eq_true rfl)) dX3_takeBest_133 ⟨Nat.le_refl _, Nat.le_refl _⟩) (Cut.self _ _) hP hD hS hA (fun H locs hP hD hS => ?_)
            refine lv_iinc (v := x4 + 1) (lv' := [(4, .int (x4 + 1)), (0, .ref (A 0)), (1, .int x1), (2, .int x2), (3, .int x3)]) hx hb dX3_takeBest_136 hl (k := 4) rfl rfl (by decide) rfl (fun ls hl => ?_)
            refine lv_goto (tgt := 78) hx hb dX3_takeBest_139 (by decide) ?_
            exact hk78 _ hf H locs hP hD hS ls (lv_sub hl [1, 2, 3, 4, 0] rfl)
  have B68 : ∀ (ct : St) (x1 : Int32) (x2 : Int32), fX3_takeBest_J68 ct cw x1 x2 = some res → Bk p l e ({ frames := 3, cells := 0, slots := 0, locals := 69 }) s m args below meth c Q A0 D 5 0 0 (wX3 cI cZ A ct cw) [(0, .ref (A 0)), (1, .int x1), (2, .int x2)] 68 [] := by
    intro ct x1 x2 hf
    unfold fX3_takeBest_J68 at hf
    intro H locs hP hD hS ls hl
    refine lv_aload_n hx hb dX3_takeBest_68 rfl (lv_at hl 0 rfl) ?_
    refine ld_f S iX3 hK hP 0 1 (.ref (A 1)) (gX3_0 _ _ _ _ _) rfl (by decide) k9 rfl rfl dX3_takeBest_69 ?_
    refine lv_iload_n hx hb dX3_takeBest_72 rfl (lv_at hl 1 rfl) ?_
    obtain ⟨c73, hf⟩ := ck_t hf
    refine va_iald (f := ct 1) hx hb hK hP 1 0 (gX3_1 _ _ _ _ _) rfl (inb_in c73) dX3_takeBest_73 ?_
    refine lv_istore_n (lv' := [(3, .int (ct 1 x1.toNatClampNeg)), (0, .ref (A 0)), (1, .int x1), (2, .int x2)]) hx hb dX3_takeBest_74 rfl hl (by decide) rfl (fun ls hl => ?_)
    refine lv_iload_n hx hb dX3_takeBest_75 rfl (lv_at hl 3 rfl) ?_
    refine lv_istore (lv' := [(4, .int x2), (3, .int (ct 1 x1.toNatClampNeg)), (0, .ref (A 0)), (1, .int x1), (2, .int x2)]) hx hb dX3_takeBest_76 hl (by decide) rfl (fun ls hl => ?_)
    exact B78 _ _ _ _ _ hf H locs hP hD hS ls (lv_sub hl [2, 3, 4, 1, 0] rfl)
  have B36 : ∀ (x1 : Int32) (x2 : Int32) (ct : St) (x3 : Int32), fX3_takeBest_L36 cw x1 x2 ct x3 = some res → Bk p l e ({ frames := 3, cells := 0, slots := 0, locals := 69 }) s m args below meth c Q A0 D 5 0 0 (wX3 cI cZ A ct cw) [(0, .ref (A 0)), (1, .int x1), (2, .int x2), (3, .int x3)] 36 [] := by
    intro x1 x2 ct x3 hf
    refine loop_ind (step := (fun k a => fX3_takeBest_S36 k cw x1 x2 (a.1) (a.2))) (fun a => Bk p l e ({ frames := 3, cells := 0, slots := 0, locals := 69 }) s m args below meth c Q A0 D 5 0 0 (wX3 cI cZ A (a.1) cw) [(0, .ref (A 0)), (1, .int x1), (2, .int x2), (3, .int (a.2))] 36 []) ?_ _ _ hf
    clear hf
    intro k36 hk36 a hf
    obtain ⟨ct_, x3_⟩ := a
    clear ct x3
    obtain ⟨ct, e_⟩ : ∃ z, z = ct_ := ⟨_, rfl⟩
    subst e_
    obtain ⟨x3, e_⟩ : ∃ z, z = x3_ := ⟨_, rfl⟩
    subst e_
    have hf : fX3_takeBest_S36 k36 cw x1 x2 ct x3 = some res := hf
    show Bk p l e ({ frames := 3, cells := 0, slots := 0, locals := 69 }) s m args below meth c Q A0 D 5 0 0 (wX3 cI cZ A ct cw) [(0, .ref (A 0)), (1, .int x1), (2, .int x2), (3, .int x3)] 36 []
    unfold fX3_takeBest_S36 at hf
    intro H locs hP hD hS ls hl
    refine lv_iload_n hx hb dX3_takeBest_36 rfl (lv_at hl 3 rfl) ?_
    refine lv_iload_n hx hb dX3_takeBest_37 rfl (lv_at hl 2 rfl) ?_
    refine lv_iconst (v := 5) hx hb dX3_takeBest_38 (by decide) ?_
    refine lv_iadd hx hb dX3_takeBest_39 ?_
    refine lv_icmp_ge (tgt := 68) hx hb dX3_takeBest_40 (by decide) (fun c40 => ?_) (fun c40 => ?_)
    · have hf := if_t c40 hf
      exact B68 _ _ _ hf H locs hP hD hS ls (lv_sub hl [0, 1, 2] rfl)
    · have hf := if_f c40 hf
      refine lv_aload_n hx hb dX3_takeBest_43 rfl (lv_at hl 0 rfl) ?_
      refine ld_f S iX3 hK hP 0 0 (.ref (A 15)) (gX3_0 _ _ _ _ _) rfl (by decide) k55 rfl rfl dX3_takeBest_44 ?_
      refine ld_f S iX4 hK hP 15 3 (.ref (A 19)) (gX3_15 _ _ _ _ _) rfl (by decide) k103 rfl rfl dX3_takeBest_47 ?_
      refine lv_iload_n hx hb dX3_takeBest_50 rfl (lv_at hl 3 rfl) ?_
      obtain ⟨c51, hf⟩ := ck_t hf
      refine va_iald (f := cw 3) hx hb hK hP 19 0 (gX3_19 _ _ _ _ _) rfl (inb_in c51) dX3_takeBest_51 ?_
      refine lv_iconst (v := 1) hx hb dX3_takeBest_52 (by decide) ?_
      refine lv_icmp_eq (tgt := 62) hx hb dX3_takeBest_53 (by decide) (fun c53 => ?_) (fun c53 => ?_)
      · have hf := if_t c53 hf
        refine lv_iinc (v := x3 + 1) (lv' := [(3, .int (x3 + 1)), (0, .ref (A 0)), (1, .int x1), (2, .int x2)]) hx hb dX3_takeBest_62 hl (k := 3) rfl rfl (by decide) rfl (fun ls hl => ?_)
        refine lv_goto (tgt := 36) hx hb dX3_takeBest_65 (by decide) ?_
        exact hk36 _ hf H locs hP hD hS ls (lv_sub hl [1, 2, 3, 0] rfl)
      · have hf := if_f c53 hf
        refine lv_aload_n hx hb dX3_takeBest_56 rfl (lv_at hl 0 rfl) ?_
        refine lv_iload_n hx hb dX3_takeBest_57 rfl (lv_at hl 1 rfl) ?_
        refine lv_iload_n hx hb dX3_takeBest_58 rfl (lv_at hl 3 rfl) ?_
        obtain ⟨q59, h59, hf⟩ := bd_t hf
        refine cl_v (va_runV (As := [.int x1, .int x3]) (rest := []) S (mX3_offer l D cI cZ A ct cw x1 x3 H.size q59 h59) (cwV 2 hts gX3_takeBest_X3_offer rfl rfl rfl (by decide +kernel) ⟨Nat.le_of_ble_eq_true rfl, Nat.le_of_ble_eq_true rfl⟩) (mP_V (ci := 3) (Cut.self _ []) hP hD hK hG rfl (gX3_0 _ _ _ _ _)) rfl rfl hl.1 rfl (lv_room (Nat.le_of_ble_eq_true rfl)) dX3_takeBest_59 ⟨Nat.le_refl _, Nat.le_refl _⟩) (Cut.self _ _) hP hD hS hA (fun H locs hP hD hS => ?_)
        refine lv_iinc (v := x3 + 1) (lv' := [(3, .int (x3 + 1)), (0, .ref (A 0)), (1, .int x1), (2, .int x2)]) hx hb dX3_takeBest_62 hl (k := 3) rfl rfl (by decide) rfl (fun ls hl => ?_)
        refine lv_goto (tgt := 36) hx hb dX3_takeBest_65 (by decide) ?_
        exact hk36 _ hf H locs hP hD hS ls (lv_sub hl [1, 2, 3, 0] rfl)
  intro H locs hP hD hS ls hl
  have hl : lv_has ls 5 [(0, .ref (A 0)), (1, .int x1)] := hl
  unfold fX3_takeBest at hf
  refine lv_aload_n hx hb dX3_takeBest_0 rfl (lv_at hl 0 rfl) ?_
  refine ld_f S iX3 hK hP 0 1 (.ref (A 1)) (gX3_0 _ _ _ _ _) rfl (by decide) k9 rfl rfl dX3_takeBest_1 ?_
  refine lv_iload_n hx hb dX3_takeBest_4 rfl (lv_at hl 1 rfl) ?_
  refine lv_iload_n hx hb dX3_takeBest_5 rfl (lv_at hl 1 rfl) ?_
  obtain ⟨c6, hf⟩ := ck_t hf
  refine st_i hx hb hK hP hD hS 1 0 (sX3_1 _ _ _ _ _ _ _) (gX3_1 _ _ _ _ _) rfl c6 dX3_takeBest_6 (fun H locs hP hD hS => ?_)
  refine lv_aload_n hx hb dX3_takeBest_7 rfl (lv_at hl 0 rfl) ?_
  refine ld_f S iX3 hK hP 0 2 (.ref (A 2)) (gX3_0 _ _ _ _ _) rfl (by decide) k15 rfl rfl dX3_takeBest_8 ?_
  refine lv_iload_n hx hb dX3_takeBest_11 rfl (lv_at hl 1 rfl) ?_
  refine lv_iconst (v := 0) hx hb dX3_takeBest_12 (by decide) ?_
  obtain ⟨c13, hf⟩ := ck_t hf
  refine st_i hx hb hK hP hD hS 2 0 (sX3_2 _ _ _ _ _ _ _) (gX3_2 _ _ _ _ _) rfl c13 dX3_takeBest_13 (fun H locs hP hD hS => ?_)
  refine lv_aload_n hx hb dX3_takeBest_14 rfl (lv_at hl 0 rfl) ?_
  refine ld_f S iX3 hK hP 0 3 (.ref (A 3)) (gX3_0 _ _ _ _ _) rfl (by decide) k18 rfl rfl dX3_takeBest_15 ?_
  refine lv_iload_n hx hb dX3_takeBest_18 rfl (lv_at hl 1 rfl) ?_
  refine lv_iconst (v := 0) hx hb dX3_takeBest_19 (by decide) ?_
  obtain ⟨c20, hf⟩ := ck_t hf
  refine st_i hx hb hK hP hD hS 3 0 (sX3_3 _ _ _ _ _ _ _) (gX3_3 _ _ _ _ _) rfl c20 dX3_takeBest_20 (fun H locs hP hD hS => ?_)
  refine lv_aload_n hx hb dX3_takeBest_21 rfl (lv_at hl 0 rfl) ?_
  refine ld_f S iX3 hK hP 0 4 (.ref (A 4)) (gX3_0 _ _ _ _ _) rfl (by decide) k21 rfl rfl dX3_takeBest_22 ?_
  refine lv_iload_n hx hb dX3_takeBest_25 rfl (lv_at hl 1 rfl) ?_
  refine lv_iconst (v := (-1)) hx hb dX3_takeBest_26 (by decide) ?_
  obtain ⟨c27, hf⟩ := ck_t hf
  refine st_i hx hb hK hP hD hS 4 0 (sX3_4 _ _ _ _ _ _ _) (gX3_4 _ _ _ _ _) rfl c27 dX3_takeBest_27 (fun H locs hP hD hS => ?_)
  refine lv_iload_n hx hb dX3_takeBest_28 rfl (lv_at hl 1 rfl) ?_
  refine lv_iconst (v := 0) hx hb dX3_takeBest_29 (by decide) ?_
  obtain ⟨q30, h30, hf⟩ := bd_t hf
  refine cl_i (va_runSN (As := [.int x1, .int 0]) (rest := []) S (mX5_spotOf l D cI cZ x1 0 H.size q30 h30) ⟨va_cnB 2 hts gX3_takeBest_X5_spotOf_n110 rfl rfl rfl hG.1 (hts (.initialized RX5) (by decide +kernel)) (by decide +kernel) ⟨Nat.le_of_ble_eq_true rfl, Nat.le_of_ble_eq_true rfl⟩, hts (.static yX5_spotOf) (by decide +kernel), trivial⟩ (mP_S (Cut.nil _) hP hD hK hG) rfl rfl hl.1 rfl (lv_room (Nat.le_of_ble_eq_true rfl)) dX3_takeBest_30 ⟨Nat.le_refl _, Nat.le_refl _⟩) (Cut.nil _) hP hD hS hA (fun H locs hP hD hS => ?_)
  refine lv_istore_n (lv' := [(2, .int q30), (0, .ref (A 0)), (1, .int x1)]) hx hb dX3_takeBest_33 rfl hl (by decide) rfl (fun ls hl => ?_)
  refine lv_iload_n hx hb dX3_takeBest_34 rfl (lv_at hl 0 rfl) ?_
  refine lv_istore_n (lv' := [(3, .int q30), (2, .int q30), (0, .ref (A 0)), (1, .int x1)]) hx hb dX3_takeBest_35 rfl hl (by decide) rfl (fun ls hl => ?_)
  exact B36 _ _ _ _ hf H locs hP hD hS ls (lv_sub hl [2, 3, 1, 0] rfl)
set_option maxHeartbeats 4000000 in
set_option maxRecDepth 100000 in
theorem mX3_pass (l : Launch) (D : va_G) (cI cZ : ClassId) (A : Nat → Nat)  (ct : St) (cw : St) (sz : Nat) (res : St) (hf : fX3_pass ct cw = some res) : Met l yX3_pass wsX3_pass ({ frames := 4, cells := 0, slots := 0, locals := 93 }) (mP D (tysX cI cZ) [.ref (A 0)] (wX3 cI cZ A ct cw) sz) (mQv D (wX3 cI cZ A ct cw) (wX3 cI cZ A res cw) sz) 0 0 (va_A (wX3 cI cZ A ct cw) sz) := by
  refine mkM_v (cc := cX3_pass) (maxL := 2) (own := RX3) (by decide +kernel) rfl rfl (Nat.le_of_ble_eq_true rfl) ?_
  intro p e s m args below meth c A0 Q S hK hG hA hR
  obtain ⟨hx, hb, hml, hown, hts⟩ := id S
  have k59 := hts (.fieldLink RX3 59 "SwitchFloor$Tree" "beats" "I") (by decide +kernel)
  have iX3 : ∀ w ∈ wsX30, w ∈ wsX3_pass := by decide +kernel
  have k49 := hts (.fieldLink RX3 49 "SwitchFloor$Tree" "stale" "[Z") (by decide +kernel)
  have B63 : ∀ (ct : St), fX3_pass_J63 ct cw = some res → Bk p l e ({ frames := 4, cells := 0, slots := 0, locals := 93 }) s m args below meth c Q A0 D 2 0 0 (wX3 cI cZ A ct cw) [(0, .ref (A 0))] 63 [] := by
    intro ct hf
    unfold fX3_pass_J63 at hf
    intro H locs hP hD hS ls hl
    refine lv_aload_n hx hb dX3_pass_63 rfl (lv_at hl 0 rfl) ?_
    obtain ⟨q64, h64, hf⟩ := bd_t hf
    refine cl_v (va_runV (As := []) (rest := []) S (mX3_spreadStale l D cI cZ A ct cw H.size q64 h64) (cwV 0 hts gX3_pass_X3_spreadStale rfl rfl rfl (by decide +kernel) ⟨Nat.le_of_ble_eq_true rfl, Nat.le_of_ble_eq_true rfl⟩) (mP_V (ci := 3) (Cut.self _ []) hP hD hK hG rfl (gX3_0 _ _ _ _ _)) rfl rfl hl.1 rfl (lv_room (Nat.le_of_ble_eq_true rfl)) dX3_pass_64 ⟨Nat.le_refl _, Nat.le_refl _⟩) (Cut.self _ _) hP hD hS hA (fun H locs hP hD hS => ?_)
    refine lv_aload_n hx hb dX3_pass_67 rfl (lv_at hl 0 rfl) ?_
    obtain ⟨q68, h68, hf⟩ := bd_t hf
    refine cl_v (va_runV (As := []) (rest := []) S (mX3_endStorms l D cI cZ A q64 cw H.size q68 h68) (cwV 0 hts gX3_pass_X3_endStorms rfl rfl rfl (by decide +kernel) ⟨Nat.le_of_ble_eq_true rfl, Nat.le_of_ble_eq_true rfl⟩) (mP_V (ci := 3) (Cut.self _ []) hP hD hK hG rfl (gX3_0 _ _ _ _ _)) rfl rfl hl.1 rfl (lv_room (Nat.le_of_ble_eq_true rfl)) dX3_pass_68 ⟨Nat.le_refl _, Nat.le_refl _⟩) (Cut.self _ _) hP hD hS hA (fun H locs hP hD hS => ?_)
    exact hR _ ls H locs _ (congrArg (fun q => (wX3 cI cZ A q cw)) (Option.some.inj hf)) dX3_pass_71 hP hD hS
  have B46 : ∀ (ct : St) (x1 : Int32), fX3_pass_L46 cw ct x1 = some res → Bk p l e ({ frames := 4, cells := 0, slots := 0, locals := 93 }) s m args below meth c Q A0 D 2 0 0 (wX3 cI cZ A ct cw) [(0, .ref (A 0)), (1, .int x1)] 46 [] := by
    intro ct x1 hf
    refine loop_ind (step := (fun k a => fX3_pass_S46 k cw (a.1) (a.2))) (fun a => Bk p l e ({ frames := 4, cells := 0, slots := 0, locals := 93 }) s m args below meth c Q A0 D 2 0 0 (wX3 cI cZ A (a.1) cw) [(0, .ref (A 0)), (1, .int (a.2))] 46 []) ?_ _ _ hf
    clear hf
    intro k46 hk46 a hf
    obtain ⟨ct_, x1_⟩ := a
    clear ct x1
    obtain ⟨ct, e_⟩ : ∃ z, z = ct_ := ⟨_, rfl⟩
    subst e_
    obtain ⟨x1, e_⟩ : ∃ z, z = x1_ := ⟨_, rfl⟩
    subst e_
    have hf : fX3_pass_S46 k46 cw ct x1 = some res := hf
    show Bk p l e ({ frames := 4, cells := 0, slots := 0, locals := 93 }) s m args below meth c Q A0 D 2 0 0 (wX3 cI cZ A ct cw) [(0, .ref (A 0)), (1, .int x1)] 46 []
    unfold fX3_pass_S46 at hf
    intro H locs hP hD hS ls hl
    refine lv_iload_n hx hb dX3_pass_46 rfl (lv_at hl 1 rfl) ?_
    refine lv_bipush (v := 30) hx hb dX3_pass_47 (by decide) ?_
    refine lv_icmp_ge (tgt := 63) hx hb dX3_pass_49 (by decide) (fun c49 => ?_) (fun c49 => ?_)
    · have hf := if_t c49 hf
      exact B63 _ hf H locs hP hD hS ls (lv_sub hl [0] rfl)
    · have hf := if_f c49 hf
      refine lv_aload_n hx hb dX3_pass_52 rfl (lv_at hl 0 rfl) ?_
      refine lv_iload_n hx hb dX3_pass_53 rfl (lv_at hl 1 rfl) ?_
      obtain ⟨q54, h54, hf⟩ := bd_t hf
      refine cl_v (va_runV (As := [.int x1]) (rest := []) S (mX3_turn l D cI cZ A ct cw x1 H.size q54 h54) (cwV 1 hts gX3_pass_X3_turn rfl rfl rfl (by decide +kernel) ⟨Nat.le_of_ble_eq_true rfl, Nat.le_of_ble_eq_true rfl⟩) (mP_V (ci := 3) (Cut.self _ []) hP hD hK hG rfl (gX3_0 _ _ _ _ _)) rfl rfl hl.1 rfl (lv_room (Nat.le_of_ble_eq_true rfl)) dX3_pass_54 ⟨Nat.le_refl _, Nat.le_refl _⟩) (Cut.self _ _) hP hD hS hA (fun H locs hP hD hS => ?_)
      refine lv_iinc (v := x1 + 1) (lv' := [(1, .int (x1 + 1)), (0, .ref (A 0))]) hx hb dX3_pass_57 hl (k := 1) rfl rfl (by decide) rfl (fun ls hl => ?_)
      refine lv_goto (tgt := 46) hx hb dX3_pass_60 (by decide) ?_
      exact hk46 _ hf H locs hP hD hS ls (lv_sub hl [1, 0] rfl)
  have B44 : ∀ (ct : St), fX3_pass_J44 ct cw = some res → Bk p l e ({ frames := 4, cells := 0, slots := 0, locals := 93 }) s m args below meth c Q A0 D 2 0 0 (wX3 cI cZ A ct cw) [(0, .ref (A 0))] 44 [] := by
    intro ct hf
    unfold fX3_pass_J44 at hf
    intro H locs hP hD hS ls hl
    refine lv_iconst (v := 0) hx hb dX3_pass_44 (by decide) ?_
    refine lv_istore_n (lv' := [(1, .int 0), (0, .ref (A 0))]) hx hb dX3_pass_45 rfl hl (by decide) rfl (fun ls hl => ?_)
    exact B46 _ _ hf H locs hP hD hS ls (lv_sub hl [1, 0] rfl)
  have B20 : ∀ (ct : St) (x1 : Int32), fX3_pass_L20 cw ct x1 = some res → Bk p l e ({ frames := 4, cells := 0, slots := 0, locals := 93 }) s m args below meth c Q A0 D 2 0 0 (wX3 cI cZ A ct cw) [(0, .ref (A 0)), (1, .int x1)] 20 [] := by
    intro ct x1 hf
    refine loop_ind (step := (fun k a => fX3_pass_S20 k cw (a.1) (a.2))) (fun a => Bk p l e ({ frames := 4, cells := 0, slots := 0, locals := 93 }) s m args below meth c Q A0 D 2 0 0 (wX3 cI cZ A (a.1) cw) [(0, .ref (A 0)), (1, .int (a.2))] 20 []) ?_ _ _ hf
    clear hf
    intro k20 hk20 a hf
    obtain ⟨ct_, x1_⟩ := a
    clear ct x1
    obtain ⟨ct, e_⟩ : ∃ z, z = ct_ := ⟨_, rfl⟩
    subst e_
    obtain ⟨x1, e_⟩ : ∃ z, z = x1_ := ⟨_, rfl⟩
    subst e_
    have hf : fX3_pass_S20 k20 cw ct x1 = some res := hf
    show Bk p l e ({ frames := 4, cells := 0, slots := 0, locals := 93 }) s m args below meth c Q A0 D 2 0 0 (wX3 cI cZ A ct cw) [(0, .ref (A 0)), (1, .int x1)] 20 []
    unfold fX3_pass_S20 at hf
    intro H locs hP hD hS ls hl
    refine lv_iload_n hx hb dX3_pass_20 rfl (lv_at hl 1 rfl) ?_
    refine lv_bipush (v := 6) hx hb dX3_pass_21 (by decide) ?_
    refine lv_icmp_ge (tgt := 44) hx hb dX3_pass_23 (by decide) (fun c23 => ?_) (fun c23 => ?_)
    · have hf := if_t c23 hf
      exact B44 _ hf H locs hP hD hS ls (lv_sub hl [0] rfl)
    · have hf := if_f c23 hf
      refine lv_aload_n hx hb dX3_pass_26 rfl (lv_at hl 0 rfl) ?_
      refine ld_f S iX3 hK hP 0 14 (.ref (A 13)) (gX3_0 _ _ _ _ _) rfl (by decide) k49 rfl rfl dX3_pass_27 ?_
      refine lv_iload_n hx hb dX3_pass_30 rfl (lv_at hl 1 rfl) ?_
      refine lv_iconst (v := 0) hx hb dX3_pass_31 (by decide) ?_
      obtain ⟨c32, hf⟩ := ck_t hf
      refine st_z hx hb hK hP hD hS 13 1 (sX3_13 _ _ _ _ _ _ _) (gX3_13 _ _ _ _ _) rfl c32 dX3_pass_32 (fun H locs hP hD hS => ?_)
      refine lv_aload_n hx hb dX3_pass_33 rfl (lv_at hl 0 rfl) ?_
      refine lv_iload_n hx hb dX3_pass_34 rfl (lv_at hl 1 rfl) ?_
      obtain ⟨q35, h35, hf⟩ := bd_t hf
      refine cl_v (va_runV (As := [.int x1]) (rest := []) S (mX3_takeBest l D cI cZ A (aS ct 14 x1 (vp_nar .boolean 0)) cw x1 H.size q35 h35) (cwV 1 hts gX3_pass_X3_takeBest rfl rfl rfl (by decide +kernel) ⟨Nat.le_of_ble_eq_true rfl, Nat.le_of_ble_eq_true rfl⟩) (mP_V (ci := 3) (Cut.self _ []) hP hD hK hG rfl (gX3_0 _ _ _ _ _)) rfl rfl hl.1 rfl (lv_room (Nat.le_of_ble_eq_true rfl)) dX3_pass_35 ⟨Nat.le_refl _, Nat.le_refl _⟩) (Cut.self _ _) hP hD hS hA (fun H locs hP hD hS => ?_)
      refine lv_iinc (v := x1 + 1) (lv' := [(1, .int (x1 + 1)), (0, .ref (A 0))]) hx hb dX3_pass_38 hl (k := 1) rfl rfl (by decide) rfl (fun ls hl => ?_)
      refine lv_goto (tgt := 20) hx hb dX3_pass_41 (by decide) ?_
      exact hk20 _ hf H locs hP hD hS ls (lv_sub hl [1, 0] rfl)
  intro H locs hP hD hS ls hl
  have hl : lv_has ls 2 [(0, .ref (A 0))] := hl
  unfold fX3_pass at hf
  refine lv_aload_n hx hb dX3_pass_0 rfl (lv_at hl 0 rfl) ?_
  refine lv_dup hx hb dX3_pass_1 rfl ?_
  refine ld_f S iX3 hK hP 0 9 (.int (ct 9 0)) (gX3_0 _ _ _ _ _) rfl (by decide) k59 rfl rfl dX3_pass_2 ?_
  refine lv_iconst (v := 1) hx hb dX3_pass_5 (by decide) ?_
  refine lv_iadd hx hb dX3_pass_6 ?_
  refine st_f S iX3 tyX3 tyX3_ok nmX3 hK hP hD hS 0 9 (sX3_0_9 _ _ _ _ _ _) (gX3_0 _ _ _ _ _) rfl (by decide) k59 rfl rfl (by decide +kernel) rfl dX3_pass_7 (fun H locs hP hD hS => ?_)
  refine lv_aload_n hx hb dX3_pass_10 rfl (lv_at hl 0 rfl) ?_
  obtain ⟨q11, h11, hf⟩ := bd_t hf
  refine cl_v (va_runV (As := []) (rest := []) S (mX3_tell l D cI cZ A (iS ct 9 ((ct 9 0) + 1)) cw H.size q11 h11) (cwV 0 hts gX3_pass_X3_tell rfl rfl rfl (by decide +kernel) ⟨Nat.le_of_ble_eq_true rfl, Nat.le_of_ble_eq_true rfl⟩) (mP_V (ci := 3) (Cut.self _ []) hP hD hK hG rfl (gX3_0 _ _ _ _ _)) rfl rfl hl.1 rfl (lv_room (Nat.le_of_ble_eq_true rfl)) dX3_pass_11 ⟨Nat.le_refl _, Nat.le_refl _⟩) (Cut.self _ _) hP hD hS hA (fun H locs hP hD hS => ?_)
  refine lv_aload_n hx hb dX3_pass_14 rfl (lv_at hl 0 rfl) ?_
  obtain ⟨q15, h15, hf⟩ := bd_t hf
  refine cl_v (va_runV (As := []) (rest := []) S (mX3_guardForHouses l D cI cZ A q11 cw H.size q15 h15) (cwV 0 hts gX3_pass_X3_guardForHouses rfl rfl rfl (by decide +kernel) ⟨Nat.le_of_ble_eq_true rfl, Nat.le_of_ble_eq_true rfl⟩) (mP_V (ci := 3) (Cut.self _ []) hP hD hK hG rfl (gX3_0 _ _ _ _ _)) rfl rfl hl.1 rfl (lv_room (Nat.le_of_ble_eq_true rfl)) dX3_pass_15 ⟨Nat.le_refl _, Nat.le_refl _⟩) (Cut.self _ _) hP hD hS hA (fun H locs hP hD hS => ?_)
  refine lv_iconst (v := 0) hx hb dX3_pass_18 (by decide) ?_
  refine lv_istore_n (lv' := [(1, .int 0), (0, .ref (A 0))]) hx hb dX3_pass_19 rfl hl (by decide) rfl (fun ls hl => ?_)
  exact B20 _ _ hf H locs hP hD hS ls (lv_sub hl [1, 0] rfl)
set_option maxHeartbeats 4000000 in
set_option maxRecDepth 100000 in
theorem mX2_dropOld (l : Launch) (D : va_G) (cI cZ : ClassId) (A : Nat → Nat)  (cb : St) (x1 : Int32) (sz : Nat) (res : St) (hf : fX2_dropOld cb x1 = some res) : Met l yX2_dropOld wsX2_dropOld ({ frames := 1, cells := 0, slots := 0, locals := 21 }) (mP D (tysX cI cZ) [.ref (A 0), .int x1] (wX2 cI cZ A cb) sz) (mQv D (wX2 cI cZ A cb) (wX2 cI cZ A res) sz) 0 0 (va_A (wX2 cI cZ A cb) sz) := by
  refine mkM_v (cc := cX2_dropOld) (maxL := 3) (own := RX2) (by decide +kernel) rfl rfl (Nat.le_of_ble_eq_true rfl) ?_
  intro p e s m args below meth c A0 Q S hK hG hA hR
  obtain ⟨hx, hb, hml, hown, hts⟩ := id S
  have k11 := hts (.fieldLink RX2 11 "SwitchFloor$Tables" "heardBy" "[I") (by decide +kernel)
  have iX2 : ∀ w ∈ wsX20, w ∈ wsX2_dropOld := by decide +kernel
  have k15 := hts (.fieldLink RX2 15 "SwitchFloor$Tables" "heardAt" "[I") (by decide +kernel)
  have B2 : ∀ (x1 : Int32) (cb : St) (x2 : Int32), fX2_dropOld_L2 x1 cb x2 = some res → Bk p l e ({ frames := 1, cells := 0, slots := 0, locals := 21 }) s m args below meth c Q A0 D 3 0 0 (wX2 cI cZ A cb) [(0, .ref (A 0)), (1, .int x1), (2, .int x2)] 2 [] := by
    intro x1 cb x2 hf
    refine loop_ind (step := (fun k a => fX2_dropOld_S2 k x1 (a.1) (a.2))) (fun a => Bk p l e ({ frames := 1, cells := 0, slots := 0, locals := 21 }) s m args below meth c Q A0 D 3 0 0 (wX2 cI cZ A (a.1)) [(0, .ref (A 0)), (1, .int x1), (2, .int (a.2))] 2 []) ?_ _ _ hf
    clear hf
    intro k2 hk2 a hf
    obtain ⟨cb_, x2_⟩ := a
    clear cb x2
    obtain ⟨cb, e_⟩ : ∃ z, z = cb_ := ⟨_, rfl⟩
    subst e_
    obtain ⟨x2, e_⟩ : ∃ z, z = x2_ := ⟨_, rfl⟩
    subst e_
    have hf : fX2_dropOld_S2 k2 x1 cb x2 = some res := hf
    show Bk p l e ({ frames := 1, cells := 0, slots := 0, locals := 21 }) s m args below meth c Q A0 D 3 0 0 (wX2 cI cZ A cb) [(0, .ref (A 0)), (1, .int x1), (2, .int x2)] 2 []
    unfold fX2_dropOld_S2 at hf
    intro H locs hP hD hS ls hl
    refine lv_iload_n hx hb dX2_dropOld_2 rfl (lv_at hl 2 rfl) ?_
    refine lv_sipush (v := 180) hx hb dX2_dropOld_3 (by decide) ?_
    refine lv_icmp_ge (tgt := 43) hx hb dX2_dropOld_6 (by decide) (fun c6 => ?_) (fun c6 => ?_)
    · have hf := if_t c6 hf
      exact hR _ ls H locs _ (congrArg (fun q => (wX2 cI cZ A q)) (Option.some.inj hf)) dX2_dropOld_43 hP hD hS
    · have hf := if_f c6 hf
      refine lv_aload_n hx hb dX2_dropOld_9 rfl (lv_at hl 0 rfl) ?_
      refine ld_f S iX2 hK hP 0 0 (.ref (A 1)) (gX2_0 _ _ _ _) rfl (by decide) k11 rfl rfl dX2_dropOld_10 ?_
      refine lv_iload_n hx hb dX2_dropOld_13 rfl (lv_at hl 2 rfl) ?_
      obtain ⟨c14, hf⟩ := ck_t hf
      refine va_iald (f := cb 0) hx hb hK hP 1 0 (gX2_1 _ _ _ _) rfl (inb_in c14) dX2_dropOld_14 ?_
      refine lv_iconst (v := (-1)) hx hb dX2_dropOld_15 (by decide) ?_
      refine lv_icmp_eq (tgt := 37) hx hb dX2_dropOld_16 (by decide) (fun c16 => ?_) (fun c16 => ?_)
      · have hf := if_t c16 hf
        refine lv_iinc (v := x2 + 1) (lv' := [(2, .int (x2 + 1)), (0, .ref (A 0)), (1, .int x1)]) hx hb dX2_dropOld_37 hl (k := 2) rfl rfl (by decide) rfl (fun ls hl => ?_)
        refine lv_goto (tgt := 2) hx hb dX2_dropOld_40 (by decide) ?_
        exact hk2 _ hf H locs hP hD hS ls (lv_sub hl [1, 2, 0] rfl)
      · have hf := if_f c16 hf
        refine lv_iload_n hx hb dX2_dropOld_19 rfl (lv_at hl 1 rfl) ?_
        refine lv_aload_n hx hb dX2_dropOld_20 rfl (lv_at hl 0 rfl) ?_
        refine ld_f S iX2 hK hP 0 1 (.ref (A 2)) (gX2_0 _ _ _ _) rfl (by decide) k15 rfl rfl dX2_dropOld_21 ?_
        refine lv_iload_n hx hb dX2_dropOld_24 rfl (lv_at hl 2 rfl) ?_
        obtain ⟨c25, hf⟩ := ck_t hf
        refine va_iald (f := cb 1) hx hb hK hP 2 0 (gX2_2 _ _ _ _) rfl (inb_in c25) dX2_dropOld_25 ?_
        refine lv_isub hx hb dX2_dropOld_26 ?_
        refine lv_bipush (v := 10) hx hb dX2_dropOld_27 (by decide) ?_
        refine lv_icmp_lt (tgt := 37) hx hb dX2_dropOld_29 (by decide) (fun c29 => ?_) (fun c29 => ?_)
        · have hf := if_t c29 hf
          refine lv_iinc (v := x2 + 1) (lv' := [(2, .int (x2 + 1)), (0, .ref (A 0)), (1, .int x1)]) hx hb dX2_dropOld_37 hl (k := 2) rfl rfl (by decide) rfl (fun ls hl => ?_)
          refine lv_goto (tgt := 2) hx hb dX2_dropOld_40 (by decide) ?_
          exact hk2 _ hf H locs hP hD hS ls (lv_sub hl [1, 2, 0] rfl)
        · have hf := if_f c29 hf
          refine lv_aload_n hx hb dX2_dropOld_32 rfl (lv_at hl 0 rfl) ?_
          refine lv_iload_n hx hb dX2_dropOld_33 rfl (lv_at hl 2 rfl) ?_
          obtain ⟨q34, h34, hf⟩ := bd_t hf
          refine cl_v (va_runV (As := [.int x2]) (rest := []) S (mX2_drop l D cI cZ A cb x2 H.size q34 h34) (cwV 1 hts gX2_dropOld_X2_drop rfl rfl rfl (by decide +kernel) ⟨Nat.le_of_ble_eq_true rfl, Nat.le_of_ble_eq_true rfl⟩) (mP_V (ci := 2) (Cut.self _ []) hP hD hK hG rfl (gX2_0 _ _ _ _)) rfl rfl hl.1 rfl (lv_room (Nat.le_of_ble_eq_true rfl)) dX2_dropOld_34 ⟨Nat.le_refl _, Nat.le_refl _⟩) (Cut.self _ _) hP hD hS hA (fun H locs hP hD hS => ?_)
          refine lv_iinc (v := x2 + 1) (lv' := [(2, .int (x2 + 1)), (0, .ref (A 0)), (1, .int x1)]) hx hb dX2_dropOld_37 hl (k := 2) rfl rfl (by decide) rfl (fun ls hl => ?_)
          refine lv_goto (tgt := 2) hx hb dX2_dropOld_40 (by decide) ?_
          exact hk2 _ hf H locs hP hD hS ls (lv_sub hl [1, 2, 0] rfl)
  intro H locs hP hD hS ls hl
  have hl : lv_has ls 3 [(0, .ref (A 0)), (1, .int x1)] := hl
  unfold fX2_dropOld at hf
  refine lv_iconst (v := 0) hx hb dX2_dropOld_0 (by decide) ?_
  refine lv_istore_n (lv' := [(2, .int 0), (0, .ref (A 0)), (1, .int x1)]) hx hb dX2_dropOld_1 rfl hl (by decide) rfl (fun ls hl => ?_)
  exact B2 _ _ _ hf H locs hP hD hS ls (lv_sub hl [1, 2, 0] rfl)
set_option maxHeartbeats 4000000 in
set_option maxRecDepth 100000 in
theorem mX2_empty (l : Launch) (D : va_G) (cI cZ : ClassId) (A : Nat → Nat)  (cb : St) (x1 : Int32) (sz : Nat) (res : St) (hf : fX2_empty cb x1 = some res) : Met l yX2_empty wsX2_empty ({ frames := 0, cells := 0, slots := 0, locals := 0 }) (mP D (tysX cI cZ) [.ref (A 0), .int x1] (wX2 cI cZ A cb) sz) (mQv D (wX2 cI cZ A cb) (wX2 cI cZ A res) sz) 0 0 (va_A (wX2 cI cZ A cb) sz) := by
  refine mkM_v (cc := cX2_empty) (maxL := 4) (own := RX2) (by decide +kernel) rfl rfl (Nat.le_of_ble_eq_true rfl) ?_
  intro p e s m args below meth c A0 Q S hK hG hA hR
  obtain ⟨hx, hb, hml, hown, hts⟩ := id S
  have k18 := hts (.fieldLink RX2 18 "SwitchFloor$Tables" "entries" "[I") (by decide +kernel)
  have iX2 : ∀ w ∈ wsX20, w ∈ wsX2_empty := by decide +kernel
  have k11 := hts (.fieldLink RX2 11 "SwitchFloor$Tables" "heardBy" "[I") (by decide +kernel)
  have B28 : ∀ (cb : St) (x1 : Int32), fX2_empty_J28 cb x1 = some res → Bk p l e ({ frames := 0, cells := 0, slots := 0, locals := 0 }) s m args below meth c Q A0 D 4 0 0 (wX2 cI cZ A cb) [(0, .ref (A 0)), (1, .int x1)] 28 [] := by
    intro cb x1 hf
    unfold fX2_empty_J28 at hf
    intro H locs hP hD hS ls hl
    refine lv_aload_n hx hb dX2_empty_28 rfl (lv_at hl 0 rfl) ?_
    refine ld_f S iX2 hK hP 0 2 (.ref (A 3)) (gX2_0 _ _ _ _) rfl (by decide) k18 rfl rfl dX2_empty_29 ?_
    refine lv_iload_n hx hb dX2_empty_32 rfl (lv_at hl 1 rfl) ?_
    refine lv_iconst (v := 0) hx hb dX2_empty_33 (by decide) ?_
    obtain ⟨c34, hf⟩ := ck_t hf
    refine st_i hx hb hK hP hD hS 3 0 (sX2_3 _ _ _ _ _ _) (gX2_3 _ _ _ _) rfl c34 dX2_empty_34 (fun H locs hP hD hS => ?_)
    exact hR _ ls H locs _ (congrArg (fun q => (wX2 cI cZ A q)) (Option.some.inj hf)) dX2_empty_35 hP hD hS
  have B7 : ∀ (x1 : Int32) (x2 : Int32) (cb : St) (x3 : Int32), fX2_empty_L7 x1 x2 cb x3 = some res → Bk p l e ({ frames := 0, cells := 0, slots := 0, locals := 0 }) s m args below meth c Q A0 D 4 0 0 (wX2 cI cZ A cb) [(0, .ref (A 0)), (1, .int x1), (2, .int x2), (3, .int x3)] 7 [] := by
    intro x1 x2 cb x3 hf
    refine loop_ind (step := (fun k a => fX2_empty_S7 k x1 x2 (a.1) (a.2))) (fun a => Bk p l e ({ frames := 0, cells := 0, slots := 0, locals := 0 }) s m args below meth c Q A0 D 4 0 0 (wX2 cI cZ A (a.1)) [(0, .ref (A 0)), (1, .int x1), (2, .int x2), (3, .int (a.2))] 7 []) ?_ _ _ hf
    clear hf
    intro k7 hk7 a hf
    obtain ⟨cb_, x3_⟩ := a
    clear cb x3
    obtain ⟨cb, e_⟩ : ∃ z, z = cb_ := ⟨_, rfl⟩
    subst e_
    obtain ⟨x3, e_⟩ : ∃ z, z = x3_ := ⟨_, rfl⟩
    subst e_
    have hf : fX2_empty_S7 k7 x1 x2 cb x3 = some res := hf
    show Bk p l e ({ frames := 0, cells := 0, slots := 0, locals := 0 }) s m args below meth c Q A0 D 4 0 0 (wX2 cI cZ A cb) [(0, .ref (A 0)), (1, .int x1), (2, .int x2), (3, .int x3)] 7 []
    unfold fX2_empty_S7 at hf
    intro H locs hP hD hS ls hl
    refine lv_iload_n hx hb dX2_empty_7 rfl (lv_at hl 3 rfl) ?_
    refine lv_iload_n hx hb dX2_empty_8 rfl (lv_at hl 2 rfl) ?_
    refine lv_bipush (v := 30) hx hb dX2_empty_9 (by decide) ?_
    refine lv_iadd hx hb dX2_empty_11 ?_
    refine lv_icmp_ge (tgt := 28) hx hb dX2_empty_12 (by decide) (fun c12 => ?_) (fun c12 => ?_)
    · have hf := if_t c12 hf
      exact B28 _ _ hf H locs hP hD hS ls (lv_sub hl [0, 1] rfl)
    · have hf := if_f c12 hf
      refine lv_aload_n hx hb dX2_empty_15 rfl (lv_at hl 0 rfl) ?_
      refine ld_f S iX2 hK hP 0 0 (.ref (A 1)) (gX2_0 _ _ _ _) rfl (by decide) k11 rfl rfl dX2_empty_16 ?_
      refine lv_iload_n hx hb dX2_empty_19 rfl (lv_at hl 3 rfl) ?_
      refine lv_iconst (v := (-1)) hx hb dX2_empty_20 (by decide) ?_
      obtain ⟨c21, hf⟩ := ck_t hf
      refine st_i hx hb hK hP hD hS 1 0 (sX2_1 _ _ _ _ _ _) (gX2_1 _ _ _ _) rfl c21 dX2_empty_21 (fun H locs hP hD hS => ?_)
      refine lv_iinc (v := x3 + 1) (lv' := [(3, .int (x3 + 1)), (0, .ref (A 0)), (1, .int x1), (2, .int x2)]) hx hb dX2_empty_22 hl (k := 3) rfl rfl (by decide) rfl (fun ls hl => ?_)
      refine lv_goto (tgt := 7) hx hb dX2_empty_25 (by decide) ?_
      exact hk7 _ hf H locs hP hD hS ls (lv_sub hl [1, 2, 3, 0] rfl)
  intro H locs hP hD hS ls hl
  have hl : lv_has ls 4 [(0, .ref (A 0)), (1, .int x1)] := hl
  unfold fX2_empty at hf
  refine lv_iload_n hx hb dX2_empty_0 rfl (lv_at hl 1 rfl) ?_
  refine lv_bipush (v := 30) hx hb dX2_empty_1 (by decide) ?_
  refine lv_imul hx hb dX2_empty_3 ?_
  refine lv_istore_n (lv' := [(2, .int (x1 * 30)), (0, .ref (A 0)), (1, .int x1)]) hx hb dX2_empty_4 rfl hl (by decide) rfl (fun ls hl => ?_)
  refine lv_iload_n hx hb dX2_empty_5 rfl (lv_at hl 0 rfl) ?_
  refine lv_istore_n (lv' := [(3, .int (x1 * 30)), (2, .int (x1 * 30)), (0, .ref (A 0)), (1, .int x1)]) hx hb dX2_empty_6 rfl hl (by decide) rfl (fun ls hl => ?_)
  exact B7 _ _ _ _ hf H locs hP hD hS ls (lv_sub hl [2, 3, 1, 0] rfl)
set_option maxHeartbeats 4000000 in
set_option maxRecDepth 100000 in
theorem mX1_restart (l : Launch) (D : va_G) (cI cZ : ClassId) (A : Nat → Nat)  (cp : St) (sz : Nat) (res : St) (hf : fX1_restart cp = some res) : Met l yX1_restart wsX1_restart ({ frames := 0, cells := 0, slots := 0, locals := 0 }) (mP D (tysX cI cZ) [.ref (A 0)] (wX1 cI cZ A cp) sz) (mQv D (wX1 cI cZ A cp) (wX1 cI cZ A res) sz) 0 0 (va_A (wX1 cI cZ A cp) sz) := by
  refine mkM_v (cc := cX1_restart) (maxL := 1) (own := RX1) (by decide +kernel) rfl rfl (Nat.le_of_ble_eq_true rfl) ?_
  intro p e s m args below meth c A0 Q S hK hG hA hR
  obtain ⟨hx, hb, hml, hown, hts⟩ := id S
  have k24 := hts (.fieldLink RX1 24 "SwitchFloor$Steps" "size" "I") (by decide +kernel)
  have iX1 : ∀ w ∈ wsX10, w ∈ wsX1_restart := by decide +kernel
  intro H locs hP hD hS ls hl
  have hl : lv_has ls 1 [(0, .ref (A 0))] := hl
  unfold fX1_restart at hf
  refine lv_aload_n hx hb dX1_restart_0 rfl (lv_at hl 0 rfl) ?_
  refine lv_iconst (v := 0) hx hb dX1_restart_1 (by decide) ?_
  refine st_f S iX1 tyX1 tyX1_ok nmX1 hK hP hD hS 0 4 (sX1_0_4 _ _ _ _ _) (gX1_0 _ _ _ _) rfl (by decide) k24 rfl rfl (by decide +kernel) rfl dX1_restart_2 (fun H locs hP hD hS => ?_)
  exact hR _ ls H locs _ (congrArg (fun q => (wX1 cI cZ A q)) (Option.some.inj hf)) dX1_restart_5 hP hD hS
set_option maxHeartbeats 4000000 in
set_option maxRecDepth 100000 in
theorem mX1_add (l : Launch) (D : va_G) (cI cZ : ClassId) (A : Nat → Nat)  (cp : St) (x1 : Int32) (x2 : Int32) (x3 : Int32) (x4 : Int32) (sz : Nat) (res : St) (hf : fX1_add cp x1 x2 x3 x4 = some res) : Met l yX1_add wsX1_add ({ frames := 0, cells := 0, slots := 0, locals := 0 }) (mP D (tysX cI cZ) [.ref (A 0), .int x1, .int x2, .int x3, .int x4] (wX1 cI cZ A cp) sz) (mQv D (wX1 cI cZ A cp) (wX1 cI cZ A res) sz) 0 0 (va_A (wX1 cI cZ A cp) sz) := by
  refine mkM_v (cc := cX1_add) (maxL := 5) (own := RX1) (by decide +kernel) rfl rfl (Nat.le_of_ble_eq_true rfl) ?_
  intro p e s m args below meth c A0 Q S hK hG hA hR
  obtain ⟨hx, hb, hml, hown, hts⟩ := id S
  have k24 := hts (.fieldLink RX1 24 "SwitchFloor$Steps" "size" "I") (by decide +kernel)
  have iX1 : ∀ w ∈ wsX10, w ∈ wsX1_add := by decide +kernel
  have k9 := hts (.fieldLink RX1 9 "SwitchFloor$Steps" "spot" "[I") (by decide +kernel)
  have k15 := hts (.fieldLink RX1 15 "SwitchFloor$Steps" "tag" "[I") (by decide +kernel)
  have k18 := hts (.fieldLink RX1 18 "SwitchFloor$Steps" "second" "[I") (by decide +kernel)
  have k21 := hts (.fieldLink RX1 21 "SwitchFloor$Steps" "hops" "[I") (by decide +kernel)
  intro H locs hP hD hS ls hl
  have hl : lv_has ls 5 [(0, .ref (A 0)), (1, .int x1), (2, .int x2), (3, .int x3), (4, .int x4)] := hl
  unfold fX1_add at hf
  refine lv_aload_n hx hb dX1_add_0 rfl (lv_at hl 0 rfl) ?_
  refine ld_f S iX1 hK hP 0 4 (.int (cp 4 0)) (gX1_0 _ _ _ _) rfl (by decide) k24 rfl rfl dX1_add_1 ?_
  refine lv_sipush (v := 400) hx hb dX1_add_4 (by decide) ?_
  refine lv_icmp_lt (tgt := 11) hx hb dX1_add_7 (by decide) (fun c7 => ?_) (fun c7 => ?_)
  · have hf := if_t c7 hf
    refine lv_aload_n hx hb dX1_add_11 rfl (lv_at hl 0 rfl) ?_
    refine ld_f S iX1 hK hP 0 0 (.ref (A 1)) (gX1_0 _ _ _ _) rfl (by decide) k9 rfl rfl dX1_add_12 ?_
    refine lv_aload_n hx hb dX1_add_15 rfl (lv_at hl 0 rfl) ?_
    refine ld_f S iX1 hK hP 0 4 (.int (cp 4 0)) (gX1_0 _ _ _ _) rfl (by decide) k24 rfl rfl dX1_add_16 ?_
    refine lv_iload_n hx hb dX1_add_19 rfl (lv_at hl 1 rfl) ?_
    obtain ⟨c20, hf⟩ := ck_t hf
    refine st_i hx hb hK hP hD hS 1 0 (sX1_1 _ _ _ _ _ _) (gX1_1 _ _ _ _) rfl c20 dX1_add_20 (fun H locs hP hD hS => ?_)
    refine lv_aload_n hx hb dX1_add_21 rfl (lv_at hl 0 rfl) ?_
    refine ld_f S iX1 hK hP 0 1 (.ref (A 2)) (gX1_0 _ _ _ _) rfl (by decide) k15 rfl rfl dX1_add_22 ?_
    refine lv_aload_n hx hb dX1_add_25 rfl (lv_at hl 0 rfl) ?_
    refine ld_f S iX1 hK hP 0 4 (.int (cp 4 0)) (gX1_0 _ _ _ _) rfl (by decide) k24 rfl rfl dX1_add_26 ?_
    refine lv_iload_n hx hb dX1_add_29 rfl (lv_at hl 2 rfl) ?_
    obtain ⟨c30, hf⟩ := ck_t hf
    refine st_i hx hb hK hP hD hS 2 0 (sX1_2 _ _ _ _ _ _) (gX1_2 _ _ _ _) rfl c30 dX1_add_30 (fun H locs hP hD hS => ?_)
    refine lv_aload_n hx hb dX1_add_31 rfl (lv_at hl 0 rfl) ?_
    refine ld_f S iX1 hK hP 0 2 (.ref (A 3)) (gX1_0 _ _ _ _) rfl (by decide) k18 rfl rfl dX1_add_32 ?_
    refine lv_aload_n hx hb dX1_add_35 rfl (lv_at hl 0 rfl) ?_
    refine ld_f S iX1 hK hP 0 4 (.int (cp 4 0)) (gX1_0 _ _ _ _) rfl (by decide) k24 rfl rfl dX1_add_36 ?_
    refine lv_iload_n hx hb dX1_add_39 rfl (lv_at hl 3 rfl) ?_
    obtain ⟨c40, hf⟩ := ck_t hf
    refine st_i hx hb hK hP hD hS 3 0 (sX1_3 _ _ _ _ _ _) (gX1_3 _ _ _ _) rfl c40 dX1_add_40 (fun H locs hP hD hS => ?_)
    refine lv_aload_n hx hb dX1_add_41 rfl (lv_at hl 0 rfl) ?_
    refine ld_f S iX1 hK hP 0 3 (.ref (A 4)) (gX1_0 _ _ _ _) rfl (by decide) k21 rfl rfl dX1_add_42 ?_
    refine lv_aload_n hx hb dX1_add_45 rfl (lv_at hl 0 rfl) ?_
    refine ld_f S iX1 hK hP 0 4 (.int (cp 4 0)) (gX1_0 _ _ _ _) rfl (by decide) k24 rfl rfl dX1_add_46 ?_
    refine lv_iload hx hb dX1_add_49 (lv_at hl 4 rfl) ?_
    obtain ⟨c51, hf⟩ := ck_t hf
    refine st_i hx hb hK hP hD hS 4 0 (sX1_4 _ _ _ _ _ _) (gX1_4 _ _ _ _) rfl c51 dX1_add_51 (fun H locs hP hD hS => ?_)
    refine lv_aload_n hx hb dX1_add_52 rfl (lv_at hl 0 rfl) ?_
    refine lv_dup hx hb dX1_add_53 rfl ?_
    refine ld_f S iX1 hK hP 0 4 (.int (cp 4 0)) (gX1_0 _ _ _ _) rfl (by decide) k24 rfl rfl dX1_add_54 ?_
    refine lv_iconst (v := 1) hx hb dX1_add_57 (by decide) ?_
    refine lv_iadd hx hb dX1_add_58 ?_
    refine st_f S iX1 tyX1 tyX1_ok nmX1 hK hP hD hS 0 4 (sX1_0_4 _ _ _ _ _) (gX1_0 _ _ _ _) rfl (by decide) k24 rfl rfl (by decide +kernel) rfl dX1_add_59 (fun H locs hP hD hS => ?_)
    exact hR _ ls H locs _ (congrArg (fun q => (wX1 cI cZ A q)) (Option.some.inj hf)) dX1_add_62 hP hD hS
  · have hf := if_f c7 hf
    exact hR _ ls H locs _ (congrArg (fun q => (wX1 cI cZ A q)) (Option.some.inj hf)) dX1_add_10 hP hD hS
set_option maxHeartbeats 4000000 in
set_option maxRecDepth 100000 in
theorem mX0_carries (l : Launch) (D : va_G) (cI cZ : ClassId) (A : Nat → Nat)  (cl : St) (x1 : Int32) (x2 : Int32) (sz : Nat) (res : Int32) (hf : fX0_carries cl x1 x2 = some res) : Met l yX0_carries wsX0_carries ({ frames := 1, cells := 0, slots := 0, locals := 20 }) (mP D (tysX cI cZ) [.ref (A 0), .int x1, .int x2] (wX0 cI cZ A cl) sz) (mQi D res (wX0 cI cZ A cl) (wX0 cI cZ A cl) sz) 0 0 (va_A (wX0 cI cZ A cl) sz) := by
  refine mkM_i (cc := cX0_carries) (maxL := 3) (own := RX0) (by decide +kernel) rfl rfl (Nat.le_of_ble_eq_true rfl) ?_
  intro p e s m args below meth c A0 Q S hK hG hA hR
  obtain ⟨hx, hb, hml, hown, hts⟩ := id S
  have k9 := hts (.fieldLink RX0 9 "SwitchFloor$Lanes" "carried" "[I") (by decide +kernel)
  have iX0 : ∀ w ∈ wsX00, w ∈ wsX0_carries := by decide +kernel
  intro H locs hP hD hS ls hl
  have hl : lv_has ls 3 [(0, .ref (A 0)), (1, .int x1), (2, .int x2)] := hl
  unfold fX0_carries at hf
  refine lv_aload_n hx hb dX0_carries_0 rfl (lv_at hl 0 rfl) ?_
  refine ld_f S iX0 hK hP 0 0 (.ref (A 1)) (gX0_0 _ _ _ _) rfl (by decide) k9 rfl rfl dX0_carries_1 ?_
  refine lv_iload_n hx hb dX0_carries_4 rfl (lv_at hl 1 rfl) ?_
  obtain ⟨c5, hf⟩ := ck_t hf
  refine va_iald (f := cl 0) hx hb hK hP 1 0 (gX0_1 _ _ _ _) rfl (inb_in c5) dX0_carries_5 ?_
  refine lv_iload_n hx hb dX0_carries_6 rfl (lv_at hl 2 rfl) ?_
  obtain ⟨q7, h7, hf⟩ := bd_t hf
  refine cl_i (va_runS (As := [.int x2]) (rest := [.int (cl 0 x1.toNatClampNeg)]) S (mX0_bitOf l D cI cZ x2 H.size q7 h7) (va_cwS 1 hts gX0_carries_X0_bitOf rfl rfl rfl (by decide +kernel) ⟨Nat.le_of_ble_eq_true rfl, Nat.le_of_ble_eq_true rfl⟩) (mP_S (Cut.nil _) hP hD hK hG) rfl rfl hl.1 rfl (lv_room (Nat.le_of_ble_eq_true rfl)) dX0_carries_7 ⟨Nat.le_refl _, Nat.le_refl _⟩) (Cut.nil _) hP hD hS hA (fun H locs hP hD hS => ?_)
  refine lv_iand hx hb dX0_carries_10 ?_
  refine lv_if_eq (tgt := 18) hx hb dX0_carries_11 (by decide) (fun c11 => ?_) (fun c11 => ?_)
  · have hf := if_t c11 hf
    refine lv_iconst (v := 0) hx hb dX0_carries_18 (by decide) ?_
    exact hR _ ls H locs _ _ (congrArg (fun q => q) (Option.some.inj hf)) rfl (by decide) dX0_carries_19 hP hD hS
  · have hf := if_f c11 hf
    refine lv_iconst (v := 1) hx hb dX0_carries_14 (by decide) ?_
    refine lv_goto (tgt := 19) hx hb dX0_carries_15 (by decide) ?_
    exact hR _ ls H locs _ _ (congrArg (fun q => q) (Option.some.inj hf)) rfl (by decide) dX0_carries_19 hP hD hS
set_option maxHeartbeats 4000000 in
set_option maxRecDepth 100000 in
theorem mX0_laneIn (l : Launch) (D : va_G) (cI cZ : ClassId) (A : Nat → Nat)  (cl : St) (x1 : Int32) (x2 : Int32) (sz : Nat) (res : Int32) (hf : fX0_laneIn cl x1 x2 = some res) : Met l yX0_laneIn wsX0_laneIn ({ frames := 2, cells := 0, slots := 0, locals := 42 }) (mP D (tysX cI cZ) [.ref (A 0), .int x1, .int x2] (wX0 cI cZ A cl) sz) (mQi D res (wX0 cI cZ A cl) (wX0 cI cZ A cl) sz) 0 0 (va_A (wX0 cI cZ A cl) sz) := by
  refine mkM_i (cc := cX0_laneIn) (maxL := 4) (own := RX0) (by decide +kernel) rfl rfl (Nat.le_of_ble_eq_true rfl) ?_
  intro p e s m args below meth c A0 Q S hK hG hA hR
  obtain ⟨hx, hb, hml, hown, hts⟩ := id S
  have k15 := hts (.fieldLink RX0 15 "SwitchFloor$Lanes" "untagged" "[I") (by decide +kernel)
  have iX0 : ∀ w ∈ wsX00, w ∈ wsX0_laneIn := by decide +kernel
  have B14 : ∀ (x1 : Int32) (y0 : Int32), fX0_laneIn_J14 cl x1 y0 = some res → Bk p l e ({ frames := 2, cells := 0, slots := 0, locals := 42 }) s m args below meth c Q A0 D 4 0 0 (wX0 cI cZ A cl) [(0, .ref (A 0)), (1, .int x1)] 14 [.int y0] := by
    intro x1 y0 hf
    unfold fX0_laneIn_J14 at hf
    intro H locs hP hD hS ls hl
    refine lv_istore_n (lv' := [(3, .int y0), (0, .ref (A 0)), (1, .int x1)]) hx hb dX0_laneIn_14 rfl hl (by decide) rfl (fun ls hl => ?_)
    refine lv_aload_n hx hb dX0_laneIn_15 rfl (lv_at hl 1 rfl) ?_
    refine lv_iload_n hx hb dX0_laneIn_16 rfl (lv_at hl 2 rfl) ?_
    refine lv_iload_n hx hb dX0_laneIn_17 rfl (lv_at hl 0 rfl) ?_
    obtain ⟨q18, h18, hf⟩ := bd_t hf
    refine cl_i (va_runV (As := [.int x1, .int y0]) (rest := []) S (mX0_carries l D cI cZ A cl x1 y0 H.size q18 h18) (cwV 2 hts gX0_laneIn_X0_carries rfl rfl rfl (by decide +kernel) ⟨Nat.le_of_ble_eq_true rfl, Nat.le_of_ble_eq_true rfl⟩) (mP_V (ci := 0) (Cut.self _ []) hP hD hK hG rfl (gX0_0 _ _ _ _)) rfl rfl hl.1 rfl (lv_room (Nat.le_of_ble_eq_true rfl)) dX0_laneIn_18 ⟨Nat.le_refl _, Nat.le_refl _⟩) (Cut.self _ _) hP hD hS hA (fun H locs hP hD hS => ?_)
    refine lv_if_eq (tgt := 28) hx hb dX0_laneIn_21 (by decide) (fun c21 => ?_) (fun c21 => ?_)
    · have hf := if_t c21 hf
      refine lv_iconst (v := 0) hx hb dX0_laneIn_28 (by decide) ?_
      exact hR _ ls H locs _ _ (congrArg (fun q => q) (Option.some.inj hf)) rfl rfl dX0_laneIn_29 hP hD hS
    · have hf := if_f c21 hf
      refine lv_iload_n hx hb dX0_laneIn_24 rfl (lv_at hl 0 rfl) ?_
      refine lv_goto (tgt := 29) hx hb dX0_laneIn_25 (by decide) ?_
      exact hR _ ls H locs _ _ (congrArg (fun q => q) (Option.some.inj hf)) rfl rfl dX0_laneIn_29 hP hD hS
  intro H locs hP hD hS ls hl
  have hl : lv_has ls 4 [(0, .ref (A 0)), (1, .int x1), (2, .int x2)] := hl
  unfold fX0_laneIn at hf
  refine lv_iload_n hx hb dX0_laneIn_0 rfl (lv_at hl 2 rfl) ?_
  refine lv_if_ne (tgt := 13) hx hb dX0_laneIn_1 (by decide) (fun c1 => ?_) (fun c1 => ?_)
  · have hf := if_f c1 hf
    refine lv_iload_n hx hb dX0_laneIn_13 rfl (lv_at hl 2 rfl) ?_
    exact B14 _ _ hf H locs hP hD hS ls (lv_sub hl [0, 1] rfl)
  · have hf := if_t c1 hf
    refine lv_aload_n hx hb dX0_laneIn_4 rfl (lv_at hl 0 rfl) ?_
    refine ld_f S iX0 hK hP 0 1 (.ref (A 2)) (gX0_0 _ _ _ _) rfl (by decide) k15 rfl rfl dX0_laneIn_5 ?_
    refine lv_iload_n hx hb dX0_laneIn_8 rfl (lv_at hl 1 rfl) ?_
    obtain ⟨c9, hf⟩ := ck_t hf
    refine va_iald (f := cl 1) hx hb hK hP 2 0 (gX0_2 _ _ _ _) rfl (inb_in c9) dX0_laneIn_9 ?_
    refine lv_goto (tgt := 14) hx hb dX0_laneIn_10 (by decide) ?_
    exact B14 _ _ hf H locs hP hD hS ls (lv_sub hl [0, 1] rfl)
set_option maxHeartbeats 4000000 in
set_option maxRecDepth 100000 in
theorem mX2_indexOf (l : Launch) (D : va_G) (cI cZ : ClassId)  (x0 : Int32) (x1 : Int32) (x2 : Int32) (sz : Nat) (res : Int32) (hf : fX2_indexOf x0 x1 x2 = some res) : Met l yX2_indexOf wsX2_indexOf ({ frames := 0, cells := 0, slots := 0, locals := 0 }) (mP D (tysX cI cZ) [.int x0, .int x1, .int x2] [] sz) (mQi D res [] [] sz) 0 0 (va_A [] sz) := by
  refine mkM_i (cc := cX2_indexOf) (maxL := 3) (own := RX2) (by decide +kernel) rfl rfl (Nat.le_of_ble_eq_true rfl) ?_
  intro p e s m args below meth c A0 Q S hK hG hA hR
  obtain ⟨hx, hb, hml, hown, hts⟩ := id S
  intro H locs hP hD hS ls hl
  have hl : lv_has ls 3 [(0, .int x0), (1, .int x1), (2, .int x2)] := hl
  unfold fX2_indexOf at hf
  refine lv_iload_n hx hb dX2_indexOf_0 rfl (lv_at hl 0 rfl) ?_
  refine lv_bipush (v := 30) hx hb dX2_indexOf_1 (by decide) ?_
  refine lv_imul hx hb dX2_indexOf_3 ?_
  refine lv_iload_n hx hb dX2_indexOf_4 rfl (lv_at hl 1 rfl) ?_
  refine lv_iconst (v := 1) hx hb dX2_indexOf_5 (by decide) ?_
  refine lv_isub hx hb dX2_indexOf_6 ?_
  refine lv_bipush (v := 10) hx hb dX2_indexOf_7 (by decide) ?_
  refine lv_imul hx hb dX2_indexOf_9 ?_
  refine lv_iadd hx hb dX2_indexOf_10 ?_
  refine lv_iload_n hx hb dX2_indexOf_11 rfl (lv_at hl 2 rfl) ?_
  refine lv_iadd hx hb dX2_indexOf_12 ?_
  exact hR _ ls H locs _ _ (congrArg (fun q => q) (Option.some.inj hf)) rfl rfl dX2_indexOf_13 hP hD hS
set_option maxHeartbeats 4000000 in
set_option maxRecDepth 100000 in
theorem mX2_hear (l : Launch) (D : va_G) (cI cZ : ClassId) (A : Nat → Nat)  (cb : St) (x1 : Int32) (x2 : Int32) (x3 : Int32) (x4 : Int32) (sz : Nat) (res : St) (hf : fX2_hear cb x1 x2 x3 x4 = some res) : Met l yX2_hear wsX2_hear ({ frames := 1, cells := 0, slots := 0, locals := 22 }) (mP D (tysX cI cZ) [.ref (A 0), .int x1, .int x2, .int x3, .int x4] (wX2 cI cZ A cb) sz) (mQv D (wX2 cI cZ A cb) (wX2 cI cZ A res) sz) 0 0 (va_A (wX2 cI cZ A cb) sz) := by
  refine mkM_v (cc := cX2_hear) (maxL := 7) (own := RX2) (by decide +kernel) rfl rfl (Nat.le_of_ble_eq_true rfl) ?_
  intro p e s m args below meth c A0 Q S hK hG hA hR
  obtain ⟨hx, hb, hml, hown, hts⟩ := id S
  have k11 := hts (.fieldLink RX2 11 "SwitchFloor$Tables" "heardBy" "[I") (by decide +kernel)
  have iX2 : ∀ w ∈ wsX20, w ∈ wsX2_hear := by decide +kernel
  have k15 := hts (.fieldLink RX2 15 "SwitchFloor$Tables" "heardAt" "[I") (by decide +kernel)
  have k18 := hts (.fieldLink RX2 18 "SwitchFloor$Tables" "entries" "[I") (by decide +kernel)
  have B49 : ∀ (cb : St) (x1 : Int32) (x4 : Int32) (x6 : Int32), fX2_hear_J49 cb x1 x4 x6 = some res → Bk p l e ({ frames := 1, cells := 0, slots := 0, locals := 22 }) s m args below meth c Q A0 D 7 0 0 (wX2 cI cZ A cb) [(0, .ref (A 0)), (1, .int x1), (4, .int x4), (6, .int x6)] 49 [] := by
    intro cb x1 x4 x6 hf
    unfold fX2_hear_J49 at hf
    intro H locs hP hD hS ls hl
    refine lv_aload_n hx hb dX2_hear_49 rfl (lv_at hl 0 rfl) ?_
    refine ld_f S iX2 hK hP 0 0 (.ref (A 1)) (gX2_0 _ _ _ _) rfl (by decide) k11 rfl rfl dX2_hear_50 ?_
    refine lv_iload hx hb dX2_hear_53 (lv_at hl 3 rfl) ?_
    refine lv_iload_n hx hb dX2_hear_55 rfl (lv_at hl 1 rfl) ?_
    refine lv_iconst (v := 5) hx hb dX2_hear_56 (by decide) ?_
    refine lv_irem hx hb dX2_hear_57 (by decide) ?_
    obtain ⟨c58, hf⟩ := ck_t hf
    refine st_i hx hb hK hP hD hS 1 0 (sX2_1 _ _ _ _ _ _) (gX2_1 _ _ _ _) rfl c58 dX2_hear_58 (fun H locs hP hD hS => ?_)
    refine lv_aload_n hx hb dX2_hear_59 rfl (lv_at hl 0 rfl) ?_
    refine ld_f S iX2 hK hP 0 1 (.ref (A 2)) (gX2_0 _ _ _ _) rfl (by decide) k15 rfl rfl dX2_hear_60 ?_
    refine lv_iload hx hb dX2_hear_63 (lv_at hl 3 rfl) ?_
    refine lv_iload hx hb dX2_hear_65 (lv_at hl 2 rfl) ?_
    obtain ⟨c67, hf⟩ := ck_t hf
    refine st_i hx hb hK hP hD hS 2 0 (sX2_2 _ _ _ _ _ _) (gX2_2 _ _ _ _) rfl c67 dX2_hear_67 (fun H locs hP hD hS => ?_)
    exact hR _ ls H locs _ (congrArg (fun q => (wX2 cI cZ A q)) (Option.some.inj hf)) dX2_hear_68 hP hD hS
  intro H locs hP hD hS ls hl
  have hl : lv_has ls 7 [(0, .ref (A 0)), (1, .int x1), (2, .int x2), (3, .int x3), (4, .int x4)] := hl
  unfold fX2_hear at hf
  refine lv_iload_n hx hb dX2_hear_0 rfl (lv_at hl 1 rfl) ?_
  refine lv_iconst (v := 5) hx hb dX2_hear_1 (by decide) ?_
  refine lv_idiv hx hb dX2_hear_2 (by decide) ?_
  refine lv_istore (lv' := [(5, .int (x1 / 5)), (0, .ref (A 0)), (1, .int x1), (2, .int x2), (3, .int x3), (4, .int x4)]) hx hb dX2_hear_3 hl (by decide) rfl (fun ls hl => ?_)
  refine lv_iload hx hb dX2_hear_5 (lv_at hl 0 rfl) ?_
  refine lv_iload_n hx hb dX2_hear_7 rfl (lv_at hl 3 rfl) ?_
  refine lv_iload_n hx hb dX2_hear_8 rfl (lv_at hl 4 rfl) ?_
  obtain ⟨q9, h9, hf⟩ := bd_t hf
  refine cl_i (va_runS (As := [.int (x1 / 5), .int x2, .int x3]) (rest := []) S (mX2_indexOf l D cI cZ (x1 / 5) x2 x3 H.size q9 h9) (va_cwS 3 hts gX2_hear_X2_indexOf rfl rfl rfl (by decide +kernel) ⟨Nat.le_of_ble_eq_true rfl, Nat.le_of_ble_eq_true rfl⟩) (mP_S (Cut.nil _) hP hD hK hG) rfl rfl hl.1 rfl (lv_room (Nat.le_of_ble_eq_true rfl)) dX2_hear_9 ⟨Nat.le_refl _, Nat.le_refl _⟩) (Cut.nil _) hP hD hS hA (fun H locs hP hD hS => ?_)
  refine lv_istore (lv' := [(6, .int q9), (5, .int (x1 / 5)), (0, .ref (A 0)), (1, .int x1), (2, .int x2), (3, .int x3), (4, .int x4)]) hx hb dX2_hear_12 hl (by decide) rfl (fun ls hl => ?_)
  refine lv_aload_n hx hb dX2_hear_14 rfl (lv_at hl 2 rfl) ?_
  refine ld_f S iX2 hK hP 0 0 (.ref (A 1)) (gX2_0 _ _ _ _) rfl (by decide) k11 rfl rfl dX2_hear_15 ?_
  refine lv_iload hx hb dX2_hear_18 (lv_at hl 0 rfl) ?_
  obtain ⟨c20, hf⟩ := ck_t hf
  refine va_iald (f := cb 0) hx hb hK hP 1 0 (gX2_1 _ _ _ _) rfl (inb_in c20) dX2_hear_20 ?_
  refine lv_iconst (v := (-1)) hx hb dX2_hear_21 (by decide) ?_
  refine lv_icmp_ne (tgt := 49) hx hb dX2_hear_22 (by decide) (fun c22 => ?_) (fun c22 => ?_)
  · have hf := if_f c22 hf
    exact B49 _ _ _ _ hf H locs hP hD hS ls (lv_sub hl [2, 3, 6, 0] rfl)
  · have hf := if_t c22 hf
    refine lv_aload_n hx hb dX2_hear_25 rfl (lv_at hl 2 rfl) ?_
    refine ld_f S iX2 hK hP 0 2 (.ref (A 3)) (gX2_0 _ _ _ _) rfl (by decide) k18 rfl rfl dX2_hear_26 ?_
    refine lv_iload hx hb dX2_hear_29 (lv_at hl 1 rfl) ?_
    obtain ⟨c31, hf⟩ := ck_t hf
    refine va_iald (f := cb 2) hx hb hK hP 3 0 (gX2_3 _ _ _ _) rfl (inb_in c31) dX2_hear_31 ?_
    refine lv_bipush (v := 8) hx hb dX2_hear_32 (by decide) ?_
    refine lv_icmp_lt (tgt := 38) hx hb dX2_hear_34 (by decide) (fun c34 => ?_) (fun c34 => ?_)
    · have hf := if_t c34 hf
      refine lv_aload_n hx hb dX2_hear_38 rfl (lv_at hl 2 rfl) ?_
      refine ld_f S iX2 hK hP 0 2 (.ref (A 3)) (gX2_0 _ _ _ _) rfl (by decide) k18 rfl rfl dX2_hear_39 ?_
      refine lv_iload hx hb dX2_hear_42 (lv_at hl 1 rfl) ?_
      refine lv_dup2_11 hx hb dX2_hear_44 rfl rfl ?_
      obtain ⟨c45, hf⟩ := ck_t hf
      refine va_iald (f := cb 2) hx hb hK hP 3 0 (gX2_3 _ _ _ _) rfl (inb_in c45) dX2_hear_45 ?_
      refine lv_iconst (v := 1) hx hb dX2_hear_46 (by decide) ?_
      refine lv_iadd hx hb dX2_hear_47 ?_
      obtain ⟨c48, hf⟩ := ck_t hf
      refine st_i hx hb hK hP hD hS 3 0 (sX2_3 _ _ _ _ _ _) (gX2_3 _ _ _ _) rfl c48 dX2_hear_48 (fun H locs hP hD hS => ?_)
      exact B49 _ _ _ _ hf H locs hP hD hS ls (lv_sub hl [2, 3, 6, 0] rfl)
    · have hf := if_f c34 hf
      exact hR _ ls H locs _ (congrArg (fun q => (wX2 cI cZ A q)) (Option.some.inj hf)) dX2_hear_37 hP hD hS
set_option maxHeartbeats 4000000 in
set_option maxRecDepth 100000 in
theorem mX2_portFor (l : Launch) (D : va_G) (cI cZ : ClassId) (A : Nat → Nat)  (cb : St) (x1 : Int32) (x2 : Int32) (x3 : Int32) (sz : Nat) (res : Int32) (hf : fX2_portFor cb x1 x2 x3 = some res) : Met l yX2_portFor wsX2_portFor ({ frames := 1, cells := 0, slots := 0, locals := 22 }) (mP D (tysX cI cZ) [.ref (A 0), .int x1, .int x2, .int x3] (wX2 cI cZ A cb) sz) (mQi D res (wX2 cI cZ A cb) (wX2 cI cZ A cb) sz) 0 0 (va_A (wX2 cI cZ A cb) sz) := by
  refine mkM_i (cc := cX2_portFor) (maxL := 4) (own := RX2) (by decide +kernel) rfl rfl (Nat.le_of_ble_eq_true rfl) ?_
  intro p e s m args below meth c A0 Q S hK hG hA hR
  obtain ⟨hx, hb, hml, hown, hts⟩ := id S
  have k11 := hts (.fieldLink RX2 11 "SwitchFloor$Tables" "heardBy" "[I") (by decide +kernel)
  have iX2 : ∀ w ∈ wsX20, w ∈ wsX2_portFor := by decide +kernel
  intro H locs hP hD hS ls hl
  have hl : lv_has ls 4 [(0, .ref (A 0)), (1, .int x1), (2, .int x2), (3, .int x3)] := hl
  unfold fX2_portFor at hf
  refine lv_aload_n hx hb dX2_portFor_0 rfl (lv_at hl 0 rfl) ?_
  refine ld_f S iX2 hK hP 0 0 (.ref (A 1)) (gX2_0 _ _ _ _) rfl (by decide) k11 rfl rfl dX2_portFor_1 ?_
  refine lv_iload_n hx hb dX2_portFor_4 rfl (lv_at hl 1 rfl) ?_
  refine lv_iload_n hx hb dX2_portFor_5 rfl (lv_at hl 2 rfl) ?_
  refine lv_iload_n hx hb dX2_portFor_6 rfl (lv_at hl 3 rfl) ?_
  obtain ⟨q7, h7, hf⟩ := bd_t hf
  refine cl_i (va_runS (As := [.int x1, .int x2, .int x3]) (rest := [.ref (A 1)]) S (mX2_indexOf l D cI cZ x1 x2 x3 H.size q7 h7) (va_cwS 3 hts gX2_portFor_X2_indexOf rfl rfl rfl (by decide +kernel) ⟨Nat.le_of_ble_eq_true rfl, Nat.le_of_ble_eq_true rfl⟩) (mP_S (Cut.nil _) hP hD hK hG) rfl rfl hl.1 rfl (lv_room (Nat.le_of_ble_eq_true rfl)) dX2_portFor_7 ⟨Nat.le_refl _, Nat.le_refl _⟩) (Cut.nil _) hP hD hS hA (fun H locs hP hD hS => ?_)
  obtain ⟨c10, hf⟩ := ck_t hf
  refine va_iald (f := cb 0) hx hb hK hP 1 0 (gX2_1 _ _ _ _) rfl (inb_in c10) dX2_portFor_10 ?_
  exact hR _ ls H locs _ _ (congrArg (fun q => q) (Option.some.inj hf)) rfl rfl dX2_portFor_11 hP hD hS
set_option maxHeartbeats 4000000 in
set_option maxRecDepth 100000 in
theorem mX0_tagOut (l : Launch) (D : va_G) (cI cZ : ClassId) (A : Nat → Nat)  (cl : St) (x1 : Int32) (x2 : Int32) (sz : Nat) (res : Int32) (hf : fX0_tagOut cl x1 x2 = some res) : Met l yX0_tagOut wsX0_tagOut ({ frames := 0, cells := 0, slots := 0, locals := 0 }) (mP D (tysX cI cZ) [.ref (A 0), .int x1, .int x2] (wX0 cI cZ A cl) sz) (mQi D res (wX0 cI cZ A cl) (wX0 cI cZ A cl) sz) 0 0 (va_A (wX0 cI cZ A cl) sz) := by
  refine mkM_i (cc := cX0_tagOut) (maxL := 3) (own := RX0) (by decide +kernel) rfl rfl (Nat.le_of_ble_eq_true rfl) ?_
  intro p e s m args below meth c A0 Q S hK hG hA hR
  obtain ⟨hx, hb, hml, hown, hts⟩ := id S
  have k15 := hts (.fieldLink RX0 15 "SwitchFloor$Lanes" "untagged" "[I") (by decide +kernel)
  have iX0 : ∀ w ∈ wsX00, w ∈ wsX0_tagOut := by decide +kernel
  intro H locs hP hD hS ls hl
  have hl : lv_has ls 3 [(0, .ref (A 0)), (1, .int x1), (2, .int x2)] := hl
  unfold fX0_tagOut at hf
  refine lv_iload_n hx hb dX0_tagOut_0 rfl (lv_at hl 2 rfl) ?_
  refine lv_aload_n hx hb dX0_tagOut_1 rfl (lv_at hl 0 rfl) ?_
  refine ld_f S iX0 hK hP 0 1 (.ref (A 2)) (gX0_0 _ _ _ _) rfl (by decide) k15 rfl rfl dX0_tagOut_2 ?_
  refine lv_iload_n hx hb dX0_tagOut_5 rfl (lv_at hl 1 rfl) ?_
  obtain ⟨c6, hf⟩ := ck_t hf
  refine va_iald (f := cl 1) hx hb hK hP 2 0 (gX0_2 _ _ _ _) rfl (inb_in c6) dX0_tagOut_6 ?_
  refine lv_icmp_ne (tgt := 14) hx hb dX0_tagOut_7 (by decide) (fun c7 => ?_) (fun c7 => ?_)
  · have hf := if_f c7 hf
    refine lv_iload_n hx hb dX0_tagOut_14 rfl (lv_at hl 2 rfl) ?_
    exact hR _ ls H locs _ _ (congrArg (fun q => q) (Option.some.inj hf)) rfl rfl dX0_tagOut_15 hP hD hS
  · have hf := if_t c7 hf
    refine lv_iconst (v := 0) hx hb dX0_tagOut_10 (by decide) ?_
    refine lv_goto (tgt := 15) hx hb dX0_tagOut_11 (by decide) ?_
    exact hR _ ls H locs _ _ (congrArg (fun q => q) (Option.some.inj hf)) rfl rfl dX0_tagOut_15 hP hD hS
set_option maxHeartbeats 4000000 in
set_option maxRecDepth 100000 in
theorem mX3_copyFrom (l : Launch) (D : va_G) (cI cZ : ClassId) (A : Nat → Nat)  (ct : St) (cw : St) (cu : St) (sz : Nat) (res : St) (hf : fX3_copyFrom ct cu = some res) : Met l yX3_copyFrom wsX3_copyFrom ({ frames := 0, cells := 0, slots := 0, locals := 0 }) (mP D (tysX cI cZ) [.ref (A 0), .ref (A 22)] (wX3b cI cZ A ct cw cu) sz) (mQv D (wX3b cI cZ A ct cw cu) (wX3b cI cZ A res cw cu) sz) 0 0 (va_A (wX3b cI cZ A ct cw cu) sz) := by
  refine mkM_v (cc := cX3_copyFrom) (maxL := 3) (own := RX3) (by decide +kernel) rfl rfl (Nat.le_of_ble_eq_true rfl) ?_
  intro p e s m args below meth c A0 Q S hK hG hA hR
  obtain ⟨hx, hb, hml, hown, hts⟩ := id S
  have k59 := hts (.fieldLink RX3 59 "SwitchFloor$Tree" "beats" "I") (by decide +kernel)
  have iX3 : ∀ w ∈ wsX30, w ∈ wsX3_copyFrom := by decide +kernel
  have k24 := hts (.fieldLink RX3 24 "SwitchFloor$Tree" "shutTill" "[I") (by decide +kernel)
  have k27 := hts (.fieldLink RX3 27 "SwitchFloor$Tree" "open" "[Z") (by decide +kernel)
  have k31 := hts (.fieldLink RX3 31 "SwitchFloor$Tree" "role" "[I") (by decide +kernel)
  have k34 := hts (.fieldLink RX3 34 "SwitchFloor$Tree" "waited" "[I") (by decide +kernel)
  have k9 := hts (.fieldLink RX3 9 "SwitchFloor$Tree" "root" "[I") (by decide +kernel)
  have k15 := hts (.fieldLink RX3 15 "SwitchFloor$Tree" "cost" "[I") (by decide +kernel)
  have k18 := hts (.fieldLink RX3 18 "SwitchFloor$Tree" "hops" "[I") (by decide +kernel)
  have k21 := hts (.fieldLink RX3 21 "SwitchFloor$Tree" "rootPort" "[I") (by decide +kernel)
  have B124 : ∀ (ct : St), fX3_copyFrom_J124 ct cu = some res → Bk p l e ({ frames := 0, cells := 0, slots := 0, locals := 0 }) s m args below meth c Q A0 D 3 0 0 (wX3b cI cZ A ct cw cu) [(0, .ref (A 0)), (1, .ref (A 22))] 124 [] := by
    intro ct hf
    unfold fX3_copyFrom_J124 at hf
    intro H locs hP hD hS ls hl
    refine lv_aload_n hx hb dX3_copyFrom_124 rfl (lv_at hl 0 rfl) ?_
    refine lv_aload_n hx hb dX3_copyFrom_125 rfl (lv_at hl 1 rfl) ?_
    refine ld_f S iX3 hK hP 22 9 (.int (cu 9 0)) (gX3b_22 _ _ _ _ _ _) rfl (by decide) k59 rfl rfl dX3_copyFrom_126 ?_
    refine st_f S iX3 tyX3 tyX3_ok nmX3 hK hP hD hS 0 9 (sX3b_0_9 _ _ _ _ _ _ _) (gX3b_0 _ _ _ _ _ _) rfl (by decide) k59 rfl rfl (by decide +kernel) rfl dX3_copyFrom_129 (fun H locs hP hD hS => ?_)
    exact hR _ ls H locs _ (congrArg (fun q => (wX3b cI cZ A q cw cu)) (Option.some.inj hf)) dX3_copyFrom_132 hP hD hS
  have B64 : ∀ (ct : St) (x2 : Int32), fX3_copyFrom_L64 cu ct x2 = some res → Bk p l e ({ frames := 0, cells := 0, slots := 0, locals := 0 }) s m args below meth c Q A0 D 3 0 0 (wX3b cI cZ A ct cw cu) [(0, .ref (A 0)), (1, .ref (A 22)), (2, .int x2)] 64 [] := by
    intro ct x2 hf
    refine loop_ind (step := (fun k a => fX3_copyFrom_S64 k cu (a.1) (a.2))) (fun a => Bk p l e ({ frames := 0, cells := 0, slots := 0, locals := 0 }) s m args below meth c Q A0 D 3 0 0 (wX3b cI cZ A (a.1) cw cu) [(0, .ref (A 0)), (1, .ref (A 22)), (2, .int (a.2))] 64 []) ?_ _ _ hf
    clear hf
    intro k64 hk64 a hf
    obtain ⟨ct_, x2_⟩ := a
    clear ct x2
    obtain ⟨ct, e_⟩ : ∃ z, z = ct_ := ⟨_, rfl⟩
    subst e_
    obtain ⟨x2, e_⟩ : ∃ z, z = x2_ := ⟨_, rfl⟩
    subst e_
    have hf : fX3_copyFrom_S64 k64 cu ct x2 = some res := hf
    show Bk p l e ({ frames := 0, cells := 0, slots := 0, locals := 0 }) s m args below meth c Q A0 D 3 0 0 (wX3b cI cZ A ct cw cu) [(0, .ref (A 0)), (1, .ref (A 22)), (2, .int x2)] 64 []
    unfold fX3_copyFrom_S64 at hf
    intro H locs hP hD hS ls hl
    refine lv_iload_n hx hb dX3_copyFrom_64 rfl (lv_at hl 2 rfl) ?_
    refine lv_bipush (v := 30) hx hb dX3_copyFrom_65 (by decide) ?_
    refine lv_icmp_ge (tgt := 124) hx hb dX3_copyFrom_67 (by decide) (fun c67 => ?_) (fun c67 => ?_)
    · have hf := if_t c67 hf
      exact B124 _ hf H locs hP hD hS ls (lv_sub hl [0, 1] rfl)
    · have hf := if_f c67 hf
      refine lv_aload_n hx hb dX3_copyFrom_70 rfl (lv_at hl 0 rfl) ?_
      refine ld_f S iX3 hK hP 0 5 (.ref (A 5)) (gX3b_0 _ _ _ _ _ _) rfl (by decide) k24 rfl rfl dX3_copyFrom_71 ?_
      refine lv_iload_n hx hb dX3_copyFrom_74 rfl (lv_at hl 2 rfl) ?_
      refine lv_aload_n hx hb dX3_copyFrom_75 rfl (lv_at hl 1 rfl) ?_
      refine ld_f S iX3 hK hP 22 5 (.ref (A 27)) (gX3b_22 _ _ _ _ _ _) rfl (by decide) k24 rfl rfl dX3_copyFrom_76 ?_
      refine lv_iload_n hx hb dX3_copyFrom_79 rfl (lv_at hl 2 rfl) ?_
      obtain ⟨c80, hf⟩ := ck_t hf
      refine va_iald (f := cu 5) hx hb hK hP 27 0 (gX3b_27 _ _ _ _ _ _) rfl (inb_in c80) dX3_copyFrom_80 ?_
      obtain ⟨c81, hf⟩ := ck_t hf
      refine st_i hx hb hK hP hD hS 5 0 (sX3b_5 _ _ _ _ _ _ _ _) (gX3b_5 _ _ _ _ _ _) rfl c81 dX3_copyFrom_81 (fun H locs hP hD hS => ?_)
      refine lv_aload_n hx hb dX3_copyFrom_82 rfl (lv_at hl 0 rfl) ?_
      refine ld_f S iX3 hK hP 0 6 (.ref (A 6)) (gX3b_0 _ _ _ _ _ _) rfl (by decide) k27 rfl rfl dX3_copyFrom_83 ?_
      refine lv_iload_n hx hb dX3_copyFrom_86 rfl (lv_at hl 2 rfl) ?_
      refine lv_aload_n hx hb dX3_copyFrom_87 rfl (lv_at hl 1 rfl) ?_
      refine ld_f S iX3 hK hP 22 6 (.ref (A 28)) (gX3b_22 _ _ _ _ _ _) rfl (by decide) k27 rfl rfl dX3_copyFrom_88 ?_
      refine lv_iload_n hx hb dX3_copyFrom_91 rfl (lv_at hl 2 rfl) ?_
      obtain ⟨c92, hf⟩ := ck_t hf
      refine va_zald (f := cu 6) hx hb hK hP 28 1 (gX3b_28 _ _ _ _ _ _) rfl (inb_in c92) dX3_copyFrom_92 ?_
      obtain ⟨c93, hf⟩ := ck_t hf
      refine st_z hx hb hK hP hD hS 6 1 (sX3b_6 _ _ _ _ _ _ _ _) (gX3b_6 _ _ _ _ _ _) rfl c93 dX3_copyFrom_93 (fun H locs hP hD hS => ?_)
      refine lv_aload_n hx hb dX3_copyFrom_94 rfl (lv_at hl 0 rfl) ?_
      refine ld_f S iX3 hK hP 0 7 (.ref (A 7)) (gX3b_0 _ _ _ _ _ _) rfl (by decide) k31 rfl rfl dX3_copyFrom_95 ?_
      refine lv_iload_n hx hb dX3_copyFrom_98 rfl (lv_at hl 2 rfl) ?_
      refine lv_aload_n hx hb dX3_copyFrom_99 rfl (lv_at hl 1 rfl) ?_
      refine ld_f S iX3 hK hP 22 7 (.ref (A 29)) (gX3b_22 _ _ _ _ _ _) rfl (by decide) k31 rfl rfl dX3_copyFrom_100 ?_
      refine lv_iload_n hx hb dX3_copyFrom_103 rfl (lv_at hl 2 rfl) ?_
      obtain ⟨c104, hf⟩ := ck_t hf
      refine va_iald (f := cu 7) hx hb hK hP 29 0 (gX3b_29 _ _ _ _ _ _) rfl (inb_in c104) dX3_copyFrom_104 ?_
      obtain ⟨c105, hf⟩ := ck_t hf
      refine st_i hx hb hK hP hD hS 7 0 (sX3b_7 _ _ _ _ _ _ _ _) (gX3b_7 _ _ _ _ _ _) rfl c105 dX3_copyFrom_105 (fun H locs hP hD hS => ?_)
      refine lv_aload_n hx hb dX3_copyFrom_106 rfl (lv_at hl 0 rfl) ?_
      refine ld_f S iX3 hK hP 0 8 (.ref (A 8)) (gX3b_0 _ _ _ _ _ _) rfl (by decide) k34 rfl rfl dX3_copyFrom_107 ?_
      refine lv_iload_n hx hb dX3_copyFrom_110 rfl (lv_at hl 2 rfl) ?_
      refine lv_aload_n hx hb dX3_copyFrom_111 rfl (lv_at hl 1 rfl) ?_
      refine ld_f S iX3 hK hP 22 8 (.ref (A 30)) (gX3b_22 _ _ _ _ _ _) rfl (by decide) k34 rfl rfl dX3_copyFrom_112 ?_
      refine lv_iload_n hx hb dX3_copyFrom_115 rfl (lv_at hl 2 rfl) ?_
      obtain ⟨c116, hf⟩ := ck_t hf
      refine va_iald (f := cu 8) hx hb hK hP 30 0 (gX3b_30 _ _ _ _ _ _) rfl (inb_in c116) dX3_copyFrom_116 ?_
      obtain ⟨c117, hf⟩ := ck_t hf
      refine st_i hx hb hK hP hD hS 8 0 (sX3b_8 _ _ _ _ _ _ _ _) (gX3b_8 _ _ _ _ _ _) rfl c117 dX3_copyFrom_117 (fun H locs hP hD hS => ?_)
      refine lv_iinc (v := x2 + 1) (lv' := [(2, .int (x2 + 1)), (0, .ref (A 0)), (1, .ref (A 22))]) hx hb dX3_copyFrom_118 hl (k := 2) rfl rfl (by decide) rfl (fun ls hl => ?_)
      refine lv_goto (tgt := 64) hx hb dX3_copyFrom_121 (by decide) ?_
      exact hk64 _ hf H locs hP hD hS ls (lv_sub hl [1, 2, 0] rfl)
  have B62 : ∀ (ct : St), fX3_copyFrom_J62 ct cu = some res → Bk p l e ({ frames := 0, cells := 0, slots := 0, locals := 0 }) s m args below meth c Q A0 D 3 0 0 (wX3b cI cZ A ct cw cu) [(0, .ref (A 0)), (1, .ref (A 22))] 62 [] := by
    intro ct hf
    unfold fX3_copyFrom_J62 at hf
    intro H locs hP hD hS ls hl
    refine lv_iconst (v := 0) hx hb dX3_copyFrom_62 (by decide) ?_
    refine lv_istore_n (lv' := [(2, .int 0), (0, .ref (A 0)), (1, .ref (A 22))]) hx hb dX3_copyFrom_63 rfl hl (by decide) rfl (fun ls hl => ?_)
    exact B64 _ _ hf H locs hP hD hS ls (lv_sub hl [1, 2, 0] rfl)
  have B2 : ∀ (ct : St) (x2 : Int32), fX3_copyFrom_L2 cu ct x2 = some res → Bk p l e ({ frames := 0, cells := 0, slots := 0, locals := 0 }) s m args below meth c Q A0 D 3 0 0 (wX3b cI cZ A ct cw cu) [(0, .ref (A 0)), (1, .ref (A 22)), (2, .int x2)] 2 [] := by
    intro ct x2 hf
    refine loop_ind (step := (fun k a => fX3_copyFrom_S2 k cu (a.1) (a.2))) (fun a => Bk p l e ({ frames := 0, cells := 0, slots := 0, locals := 0 }) s m args below meth c Q A0 D 3 0 0 (wX3b cI cZ A (a.1) cw cu) [(0, .ref (A 0)), (1, .ref (A 22)), (2, .int (a.2))] 2 []) ?_ _ _ hf
    clear hf
    intro k2 hk2 a hf
    obtain ⟨ct_, x2_⟩ := a
    clear ct x2
    obtain ⟨ct, e_⟩ : ∃ z, z = ct_ := ⟨_, rfl⟩
    subst e_
    obtain ⟨x2, e_⟩ : ∃ z, z = x2_ := ⟨_, rfl⟩
    subst e_
    have hf : fX3_copyFrom_S2 k2 cu ct x2 = some res := hf
    show Bk p l e ({ frames := 0, cells := 0, slots := 0, locals := 0 }) s m args below meth c Q A0 D 3 0 0 (wX3b cI cZ A ct cw cu) [(0, .ref (A 0)), (1, .ref (A 22)), (2, .int x2)] 2 []
    unfold fX3_copyFrom_S2 at hf
    intro H locs hP hD hS ls hl
    refine lv_iload_n hx hb dX3_copyFrom_2 rfl (lv_at hl 2 rfl) ?_
    refine lv_bipush (v := 6) hx hb dX3_copyFrom_3 (by decide) ?_
    refine lv_icmp_ge (tgt := 62) hx hb dX3_copyFrom_5 (by decide) (fun c5 => ?_) (fun c5 => ?_)
    · have hf := if_t c5 hf
      exact B62 _ hf H locs hP hD hS ls (lv_sub hl [0, 1] rfl)
    · have hf := if_f c5 hf
      refine lv_aload_n hx hb dX3_copyFrom_8 rfl (lv_at hl 0 rfl) ?_
      refine ld_f S iX3 hK hP 0 1 (.ref (A 1)) (gX3b_0 _ _ _ _ _ _) rfl (by decide) k9 rfl rfl dX3_copyFrom_9 ?_
      refine lv_iload_n hx hb dX3_copyFrom_12 rfl (lv_at hl 2 rfl) ?_
      refine lv_aload_n hx hb dX3_copyFrom_13 rfl (lv_at hl 1 rfl) ?_
      refine ld_f S iX3 hK hP 22 1 (.ref (A 23)) (gX3b_22 _ _ _ _ _ _) rfl (by decide) k9 rfl rfl dX3_copyFrom_14 ?_
      refine lv_iload_n hx hb dX3_copyFrom_17 rfl (lv_at hl 2 rfl) ?_
      obtain ⟨c18, hf⟩ := ck_t hf
      refine va_iald (f := cu 1) hx hb hK hP 23 0 (gX3b_23 _ _ _ _ _ _) rfl (inb_in c18) dX3_copyFrom_18 ?_
      obtain ⟨c19, hf⟩ := ck_t hf
      refine st_i hx hb hK hP hD hS 1 0 (sX3b_1 _ _ _ _ _ _ _ _) (gX3b_1 _ _ _ _ _ _) rfl c19 dX3_copyFrom_19 (fun H locs hP hD hS => ?_)
      refine lv_aload_n hx hb dX3_copyFrom_20 rfl (lv_at hl 0 rfl) ?_
      refine ld_f S iX3 hK hP 0 2 (.ref (A 2)) (gX3b_0 _ _ _ _ _ _) rfl (by decide) k15 rfl rfl dX3_copyFrom_21 ?_
      refine lv_iload_n hx hb dX3_copyFrom_24 rfl (lv_at hl 2 rfl) ?_
      refine lv_aload_n hx hb dX3_copyFrom_25 rfl (lv_at hl 1 rfl) ?_
      refine ld_f S iX3 hK hP 22 2 (.ref (A 24)) (gX3b_22 _ _ _ _ _ _) rfl (by decide) k15 rfl rfl dX3_copyFrom_26 ?_
      refine lv_iload_n hx hb dX3_copyFrom_29 rfl (lv_at hl 2 rfl) ?_
      obtain ⟨c30, hf⟩ := ck_t hf
      refine va_iald (f := cu 2) hx hb hK hP 24 0 (gX3b_24 _ _ _ _ _ _) rfl (inb_in c30) dX3_copyFrom_30 ?_
      obtain ⟨c31, hf⟩ := ck_t hf
      refine st_i hx hb hK hP hD hS 2 0 (sX3b_2 _ _ _ _ _ _ _ _) (gX3b_2 _ _ _ _ _ _) rfl c31 dX3_copyFrom_31 (fun H locs hP hD hS => ?_)
      refine lv_aload_n hx hb dX3_copyFrom_32 rfl (lv_at hl 0 rfl) ?_
      refine ld_f S iX3 hK hP 0 3 (.ref (A 3)) (gX3b_0 _ _ _ _ _ _) rfl (by decide) k18 rfl rfl dX3_copyFrom_33 ?_
      refine lv_iload_n hx hb dX3_copyFrom_36 rfl (lv_at hl 2 rfl) ?_
      refine lv_aload_n hx hb dX3_copyFrom_37 rfl (lv_at hl 1 rfl) ?_
      refine ld_f S iX3 hK hP 22 3 (.ref (A 25)) (gX3b_22 _ _ _ _ _ _) rfl (by decide) k18 rfl rfl dX3_copyFrom_38 ?_
      refine lv_iload_n hx hb dX3_copyFrom_41 rfl (lv_at hl 2 rfl) ?_
      obtain ⟨c42, hf⟩ := ck_t hf
      refine va_iald (f := cu 3) hx hb hK hP 25 0 (gX3b_25 _ _ _ _ _ _) rfl (inb_in c42) dX3_copyFrom_42 ?_
      obtain ⟨c43, hf⟩ := ck_t hf
      refine st_i hx hb hK hP hD hS 3 0 (sX3b_3 _ _ _ _ _ _ _ _) (gX3b_3 _ _ _ _ _ _) rfl c43 dX3_copyFrom_43 (fun H locs hP hD hS => ?_)
      refine lv_aload_n hx hb dX3_copyFrom_44 rfl (lv_at hl 0 rfl) ?_
      refine ld_f S iX3 hK hP 0 4 (.ref (A 4)) (gX3b_0 _ _ _ _ _ _) rfl (by decide) k21 rfl rfl dX3_copyFrom_45 ?_
      refine lv_iload_n hx hb dX3_copyFrom_48 rfl (lv_at hl 2 rfl) ?_
      refine lv_aload_n hx hb dX3_copyFrom_49 rfl (lv_at hl 1 rfl) ?_
      refine ld_f S iX3 hK hP 22 4 (.ref (A 26)) (gX3b_22 _ _ _ _ _ _) rfl (by decide) k21 rfl rfl dX3_copyFrom_50 ?_
      refine lv_iload_n hx hb dX3_copyFrom_53 rfl (lv_at hl 2 rfl) ?_
      obtain ⟨c54, hf⟩ := ck_t hf
      refine va_iald (f := cu 4) hx hb hK hP 26 0 (gX3b_26 _ _ _ _ _ _) rfl (inb_in c54) dX3_copyFrom_54 ?_
      obtain ⟨c55, hf⟩ := ck_t hf
      refine st_i hx hb hK hP hD hS 4 0 (sX3b_4 _ _ _ _ _ _ _ _) (gX3b_4 _ _ _ _ _ _) rfl c55 dX3_copyFrom_55 (fun H locs hP hD hS => ?_)
      refine lv_iinc (v := x2 + 1) (lv' := [(2, .int (x2 + 1)), (0, .ref (A 0)), (1, .ref (A 22))]) hx hb dX3_copyFrom_56 hl (k := 2) rfl rfl (by decide) rfl (fun ls hl => ?_)
      refine lv_goto (tgt := 2) hx hb dX3_copyFrom_59 (by decide) ?_
      exact hk2 _ hf H locs hP hD hS ls (lv_sub hl [1, 2, 0] rfl)
  intro H locs hP hD hS ls hl
  have hl : lv_has ls 3 [(0, .ref (A 0)), (1, .ref (A 22))] := hl
  unfold fX3_copyFrom at hf
  refine lv_iconst (v := 0) hx hb dX3_copyFrom_0 (by decide) ?_
  refine lv_istore_n (lv' := [(2, .int 0), (0, .ref (A 0)), (1, .ref (A 22))]) hx hb dX3_copyFrom_1 rfl hl (by decide) rfl (fun ls hl => ?_)
  exact B2 _ _ hf H locs hP hD hS ls (lv_sub hl [1, 2, 0] rfl)
set_option maxHeartbeats 4000000 in
set_option maxRecDepth 100000 in
theorem mX3_looksLike (l : Launch) (D : va_G) (cI cZ : ClassId) (A : Nat → Nat)  (ct : St) (cw : St) (cu : St) (sz : Nat) (res : Int32) (hf : fX3_looksLike ct cu = some res) : Met l yX3_looksLike wsX3_looksLike ({ frames := 0, cells := 0, slots := 0, locals := 0 }) (mP D (tysX cI cZ) [.ref (A 0), .ref (A 22)] (wX3b cI cZ A ct cw cu) sz) (mQi D res (wX3b cI cZ A ct cw cu) (wX3b cI cZ A ct cw cu) sz) 0 0 (va_A (wX3b cI cZ A ct cw cu) sz) := by
  refine mkM_i (cc := cX3_looksLike) (maxL := 3) (own := RX3) (by decide +kernel) rfl rfl (Nat.le_of_ble_eq_true rfl) ?_
  intro p e s m args below meth c A0 Q S hK hG hA hR
  obtain ⟨hx, hb, hml, hown, hts⟩ := id S
  have k27 := hts (.fieldLink RX3 27 "SwitchFloor$Tree" "open" "[Z") (by decide +kernel)
  have iX3 : ∀ w ∈ wsX30, w ∈ wsX3_looksLike := by decide +kernel
  have k31 := hts (.fieldLink RX3 31 "SwitchFloor$Tree" "role" "[I") (by decide +kernel)
  have k9 := hts (.fieldLink RX3 9 "SwitchFloor$Tree" "root" "[I") (by decide +kernel)
  have k15 := hts (.fieldLink RX3 15 "SwitchFloor$Tree" "cost" "[I") (by decide +kernel)
  have k18 := hts (.fieldLink RX3 18 "SwitchFloor$Tree" "hops" "[I") (by decide +kernel)
  have B63 : ∀ (x2 : Int32), fX3_looksLike_L63 ct cu x2 = some res → Bk p l e ({ frames := 0, cells := 0, slots := 0, locals := 0 }) s m args below meth c Q A0 D 3 0 0 (wX3b cI cZ A ct cw cu) [(0, .ref (A 0)), (1, .ref (A 22)), (2, .int x2)] 63 [] := by
    intro x2 hf
    refine loop_ind (step := (fun k a => fX3_looksLike_S63 k ct cu a)) (fun a => Bk p l e ({ frames := 0, cells := 0, slots := 0, locals := 0 }) s m args below meth c Q A0 D 3 0 0 (wX3b cI cZ A ct cw cu) [(0, .ref (A 0)), (1, .ref (A 22)), (2, .int a)] 63 []) ?_ _ _ hf
    clear hf
    intro k63 hk63 a hf
    obtain ⟨x2_, e_⟩ : ∃ z, z = a := ⟨a, rfl⟩
    subst e_
    clear x2
    obtain ⟨x2, e_⟩ : ∃ z, z = x2_ := ⟨_, rfl⟩
    subst e_
    have hf : fX3_looksLike_S63 k63 ct cu x2 = some res := hf
    show Bk p l e ({ frames := 0, cells := 0, slots := 0, locals := 0 }) s m args below meth c Q A0 D 3 0 0 (wX3b cI cZ A ct cw cu) [(0, .ref (A 0)), (1, .ref (A 22)), (2, .int x2)] 63 []
    unfold fX3_looksLike_S63 at hf
    intro H locs hP hD hS ls hl
    refine lv_iload_n hx hb dX3_looksLike_63 rfl (lv_at hl 2 rfl) ?_
    refine lv_bipush (v := 30) hx hb dX3_looksLike_64 (by decide) ?_
    refine lv_icmp_ge (tgt := 107) hx hb dX3_looksLike_66 (by decide) (fun c66 => ?_) (fun c66 => ?_)
    · have hf := if_t c66 hf
      refine lv_iconst (v := 1) hx hb dX3_looksLike_107 (by decide) ?_
      exact hR _ ls H locs _ _ (congrArg (fun q => q) (Option.some.inj hf)) rfl (by decide) dX3_looksLike_108 hP hD hS
    · have hf := if_f c66 hf
      refine lv_aload_n hx hb dX3_looksLike_69 rfl (lv_at hl 0 rfl) ?_
      refine ld_f S iX3 hK hP 0 6 (.ref (A 6)) (gX3b_0 _ _ _ _ _ _) rfl (by decide) k27 rfl rfl dX3_looksLike_70 ?_
      refine lv_iload_n hx hb dX3_looksLike_73 rfl (lv_at hl 2 rfl) ?_
      obtain ⟨c74, hf⟩ := ck_t hf
      refine va_zald (f := ct 6) hx hb hK hP 6 1 (gX3b_6 _ _ _ _ _ _) rfl (inb_in c74) dX3_looksLike_74 ?_
      refine lv_aload_n hx hb dX3_looksLike_75 rfl (lv_at hl 1 rfl) ?_
      refine ld_f S iX3 hK hP 22 6 (.ref (A 28)) (gX3b_22 _ _ _ _ _ _) rfl (by decide) k27 rfl rfl dX3_looksLike_76 ?_
      refine lv_iload_n hx hb dX3_looksLike_79 rfl (lv_at hl 2 rfl) ?_
      obtain ⟨c80, hf⟩ := ck_t hf
      refine va_zald (f := cu 6) hx hb hK hP 28 1 (gX3b_28 _ _ _ _ _ _) rfl (inb_in c80) dX3_looksLike_80 ?_
      refine lv_icmp_ne (tgt := 99) hx hb dX3_looksLike_81 (by decide) (fun c81 => ?_) (fun c81 => ?_)
      · have hf := if_f c81 hf
        refine lv_iconst (v := 0) hx hb dX3_looksLike_99 (by decide) ?_
        exact hR _ ls H locs _ _ (congrArg (fun q => q) (Option.some.inj hf)) rfl (by decide) dX3_looksLike_100 hP hD hS
      · have hf := if_t c81 hf
        refine lv_aload_n hx hb dX3_looksLike_84 rfl (lv_at hl 0 rfl) ?_
        refine ld_f S iX3 hK hP 0 7 (.ref (A 7)) (gX3b_0 _ _ _ _ _ _) rfl (by decide) k31 rfl rfl dX3_looksLike_85 ?_
        refine lv_iload_n hx hb dX3_looksLike_88 rfl (lv_at hl 2 rfl) ?_
        obtain ⟨c89, hf⟩ := ck_t hf
        refine va_iald (f := ct 7) hx hb hK hP 7 0 (gX3b_7 _ _ _ _ _ _) rfl (inb_in c89) dX3_looksLike_89 ?_
        refine lv_aload_n hx hb dX3_looksLike_90 rfl (lv_at hl 1 rfl) ?_
        refine ld_f S iX3 hK hP 22 7 (.ref (A 29)) (gX3b_22 _ _ _ _ _ _) rfl (by decide) k31 rfl rfl dX3_looksLike_91 ?_
        refine lv_iload_n hx hb dX3_looksLike_94 rfl (lv_at hl 2 rfl) ?_
        obtain ⟨c95, hf⟩ := ck_t hf
        refine va_iald (f := cu 7) hx hb hK hP 29 0 (gX3b_29 _ _ _ _ _ _) rfl (inb_in c95) dX3_looksLike_95 ?_
        refine lv_icmp_eq (tgt := 101) hx hb dX3_looksLike_96 (by decide) (fun c96 => ?_) (fun c96 => ?_)
        · have hf := if_t c96 hf
          refine lv_iinc (v := x2 + 1) (lv' := [(2, .int (x2 + 1)), (0, .ref (A 0)), (1, .ref (A 22))]) hx hb dX3_looksLike_101 hl (k := 2) rfl rfl (by decide) rfl (fun ls hl => ?_)
          refine lv_goto (tgt := 63) hx hb dX3_looksLike_104 (by decide) ?_
          exact hk63 _ hf H locs hP hD hS ls (lv_sub hl [1, 2, 0] rfl)
        · have hf := if_f c96 hf
          refine lv_iconst (v := 0) hx hb dX3_looksLike_99 (by decide) ?_
          exact hR _ ls H locs _ _ (congrArg (fun q => q) (Option.some.inj hf)) rfl (by decide) dX3_looksLike_100 hP hD hS
  have B61 : fX3_looksLike_J61 ct cu = some res → Bk p l e ({ frames := 0, cells := 0, slots := 0, locals := 0 }) s m args below meth c Q A0 D 3 0 0 (wX3b cI cZ A ct cw cu) [(0, .ref (A 0)), (1, .ref (A 22))] 61 [] := by
    intro  hf
    unfold fX3_looksLike_J61 at hf
    intro H locs hP hD hS ls hl
    refine lv_iconst (v := 0) hx hb dX3_looksLike_61 (by decide) ?_
    refine lv_istore_n (lv' := [(2, .int 0), (0, .ref (A 0)), (1, .ref (A 22))]) hx hb dX3_looksLike_62 rfl hl (by decide) rfl (fun ls hl => ?_)
    exact B63 _ hf H locs hP hD hS ls (lv_sub hl [1, 2, 0] rfl)
  have B2 : ∀ (x2 : Int32), fX3_looksLike_L2 ct cu x2 = some res → Bk p l e ({ frames := 0, cells := 0, slots := 0, locals := 0 }) s m args below meth c Q A0 D 3 0 0 (wX3b cI cZ A ct cw cu) [(0, .ref (A 0)), (1, .ref (A 22)), (2, .int x2)] 2 [] := by
    intro x2 hf
    refine loop_ind (step := (fun k a => fX3_looksLike_S2 k ct cu a)) (fun a => Bk p l e ({ frames := 0, cells := 0, slots := 0, locals := 0 }) s m args below meth c Q A0 D 3 0 0 (wX3b cI cZ A ct cw cu) [(0, .ref (A 0)), (1, .ref (A 22)), (2, .int a)] 2 []) ?_ _ _ hf
    clear hf
    intro k2 hk2 a hf
    obtain ⟨x2_, e_⟩ : ∃ z, z = a := ⟨a, rfl⟩
    subst e_
    clear x2
    obtain ⟨x2, e_⟩ : ∃ z, z = x2_ := ⟨_, rfl⟩
    subst e_
    have hf : fX3_looksLike_S2 k2 ct cu x2 = some res := hf
    show Bk p l e ({ frames := 0, cells := 0, slots := 0, locals := 0 }) s m args below meth c Q A0 D 3 0 0 (wX3b cI cZ A ct cw cu) [(0, .ref (A 0)), (1, .ref (A 22)), (2, .int x2)] 2 []
    unfold fX3_looksLike_S2 at hf
    intro H locs hP hD hS ls hl
    refine lv_iload_n hx hb dX3_looksLike_2 rfl (lv_at hl 2 rfl) ?_
    refine lv_bipush (v := 6) hx hb dX3_looksLike_3 (by decide) ?_
    refine lv_icmp_ge (tgt := 61) hx hb dX3_looksLike_5 (by decide) (fun c5 => ?_) (fun c5 => ?_)
    · have hf := if_t c5 hf
      exact B61  hf H locs hP hD hS ls (lv_sub hl [0, 1] rfl)
    · have hf := if_f c5 hf
      refine lv_aload_n hx hb dX3_looksLike_8 rfl (lv_at hl 0 rfl) ?_
      refine ld_f S iX3 hK hP 0 1 (.ref (A 1)) (gX3b_0 _ _ _ _ _ _) rfl (by decide) k9 rfl rfl dX3_looksLike_9 ?_
      refine lv_iload_n hx hb dX3_looksLike_12 rfl (lv_at hl 2 rfl) ?_
      obtain ⟨c13, hf⟩ := ck_t hf
      refine va_iald (f := ct 1) hx hb hK hP 1 0 (gX3b_1 _ _ _ _ _ _) rfl (inb_in c13) dX3_looksLike_13 ?_
      refine lv_aload_n hx hb dX3_looksLike_14 rfl (lv_at hl 1 rfl) ?_
      refine ld_f S iX3 hK hP 22 1 (.ref (A 23)) (gX3b_22 _ _ _ _ _ _) rfl (by decide) k9 rfl rfl dX3_looksLike_15 ?_
      refine lv_iload_n hx hb dX3_looksLike_18 rfl (lv_at hl 2 rfl) ?_
      obtain ⟨c19, hf⟩ := ck_t hf
      refine va_iald (f := cu 1) hx hb hK hP 23 0 (gX3b_23 _ _ _ _ _ _) rfl (inb_in c19) dX3_looksLike_19 ?_
      refine lv_icmp_ne (tgt := 53) hx hb dX3_looksLike_20 (by decide) (fun c20 => ?_) (fun c20 => ?_)
      · have hf := if_f c20 hf
        refine lv_iconst (v := 0) hx hb dX3_looksLike_53 (by decide) ?_
        exact hR _ ls H locs _ _ (congrArg (fun q => q) (Option.some.inj hf)) rfl (by decide) dX3_looksLike_54 hP hD hS
      · have hf := if_t c20 hf
        refine lv_aload_n hx hb dX3_looksLike_23 rfl (lv_at hl 0 rfl) ?_
        refine ld_f S iX3 hK hP 0 2 (.ref (A 2)) (gX3b_0 _ _ _ _ _ _) rfl (by decide) k15 rfl rfl dX3_looksLike_24 ?_
        refine lv_iload_n hx hb dX3_looksLike_27 rfl (lv_at hl 2 rfl) ?_
        obtain ⟨c28, hf⟩ := ck_t hf
        refine va_iald (f := ct 2) hx hb hK hP 2 0 (gX3b_2 _ _ _ _ _ _) rfl (inb_in c28) dX3_looksLike_28 ?_
        refine lv_aload_n hx hb dX3_looksLike_29 rfl (lv_at hl 1 rfl) ?_
        refine ld_f S iX3 hK hP 22 2 (.ref (A 24)) (gX3b_22 _ _ _ _ _ _) rfl (by decide) k15 rfl rfl dX3_looksLike_30 ?_
        refine lv_iload_n hx hb dX3_looksLike_33 rfl (lv_at hl 2 rfl) ?_
        obtain ⟨c34, hf⟩ := ck_t hf
        refine va_iald (f := cu 2) hx hb hK hP 24 0 (gX3b_24 _ _ _ _ _ _) rfl (inb_in c34) dX3_looksLike_34 ?_
        refine lv_icmp_ne (tgt := 53) hx hb dX3_looksLike_35 (by decide) (fun c35 => ?_) (fun c35 => ?_)
        · have hf := if_f c35 hf
          refine lv_iconst (v := 0) hx hb dX3_looksLike_53 (by decide) ?_
          exact hR _ ls H locs _ _ (congrArg (fun q => q) (Option.some.inj hf)) rfl (by decide) dX3_looksLike_54 hP hD hS
        · have hf := if_t c35 hf
          refine lv_aload_n hx hb dX3_looksLike_38 rfl (lv_at hl 0 rfl) ?_
          refine ld_f S iX3 hK hP 0 3 (.ref (A 3)) (gX3b_0 _ _ _ _ _ _) rfl (by decide) k18 rfl rfl dX3_looksLike_39 ?_
          refine lv_iload_n hx hb dX3_looksLike_42 rfl (lv_at hl 2 rfl) ?_
          obtain ⟨c43, hf⟩ := ck_t hf
          refine va_iald (f := ct 3) hx hb hK hP 3 0 (gX3b_3 _ _ _ _ _ _) rfl (inb_in c43) dX3_looksLike_43 ?_
          refine lv_aload_n hx hb dX3_looksLike_44 rfl (lv_at hl 1 rfl) ?_
          refine ld_f S iX3 hK hP 22 3 (.ref (A 25)) (gX3b_22 _ _ _ _ _ _) rfl (by decide) k18 rfl rfl dX3_looksLike_45 ?_
          refine lv_iload_n hx hb dX3_looksLike_48 rfl (lv_at hl 2 rfl) ?_
          obtain ⟨c49, hf⟩ := ck_t hf
          refine va_iald (f := cu 3) hx hb hK hP 25 0 (gX3b_25 _ _ _ _ _ _) rfl (inb_in c49) dX3_looksLike_49 ?_
          refine lv_icmp_eq (tgt := 55) hx hb dX3_looksLike_50 (by decide) (fun c50 => ?_) (fun c50 => ?_)
          · have hf := if_t c50 hf
            refine lv_iinc (v := x2 + 1) (lv' := [(2, .int (x2 + 1)), (0, .ref (A 0)), (1, .ref (A 22))]) hx hb dX3_looksLike_55 hl (k := 2) rfl rfl (by decide) rfl (fun ls hl => ?_)
            refine lv_goto (tgt := 2) hx hb dX3_looksLike_58 (by decide) ?_
            exact hk2 _ hf H locs hP hD hS ls (lv_sub hl [1, 2, 0] rfl)
          · have hf := if_f c50 hf
            refine lv_iconst (v := 0) hx hb dX3_looksLike_53 (by decide) ?_
            exact hR _ ls H locs _ _ (congrArg (fun q => q) (Option.some.inj hf)) rfl (by decide) dX3_looksLike_54 hP hD hS
  intro H locs hP hD hS ls hl
  have hl : lv_has ls 3 [(0, .ref (A 0)), (1, .ref (A 22))] := hl
  unfold fX3_looksLike at hf
  refine lv_iconst (v := 0) hx hb dX3_looksLike_0 (by decide) ?_
  refine lv_istore_n (lv' := [(2, .int 0), (0, .ref (A 0)), (1, .ref (A 22))]) hx hb dX3_looksLike_1 rfl hl (by decide) rfl (fun ls hl => ?_)
  exact B2 _ hf H locs hP hD hS ls (lv_sub hl [1, 2, 0] rfl)
set_option maxHeartbeats 4000000 in
set_option maxRecDepth 100000 in
theorem mX3_hasWaitingPort (l : Launch) (D : va_G) (cI cZ : ClassId) (A : Nat → Nat)  (ct : St) (cw : St) (sz : Nat) (res : Int32) (hf : fX3_hasWaitingPort ct = some res) : Met l yX3_hasWaitingPort wsX3_hasWaitingPort ({ frames := 0, cells := 0, slots := 0, locals := 0 }) (mP D (tysX cI cZ) [.ref (A 0)] (wX3 cI cZ A ct cw) sz) (mQi D res (wX3 cI cZ A ct cw) (wX3 cI cZ A ct cw) sz) 0 0 (va_A (wX3 cI cZ A ct cw) sz) := by
  refine mkM_i (cc := cX3_hasWaitingPort) (maxL := 2) (own := RX3) (by decide +kernel) rfl rfl (Nat.le_of_ble_eq_true rfl) ?_
  intro p e s m args below meth c A0 Q S hK hG hA hR
  obtain ⟨hx, hb, hml, hown, hts⟩ := id S
  have k34 := hts (.fieldLink RX3 34 "SwitchFloor$Tree" "waited" "[I") (by decide +kernel)
  have iX3 : ∀ w ∈ wsX30, w ∈ wsX3_hasWaitingPort := by decide +kernel
  have B2 : ∀ (x1 : Int32), fX3_hasWaitingPort_L2 ct x1 = some res → Bk p l e ({ frames := 0, cells := 0, slots := 0, locals := 0 }) s m args below meth c Q A0 D 2 0 0 (wX3 cI cZ A ct cw) [(0, .ref (A 0)), (1, .int x1)] 2 [] := by
    intro x1 hf
    refine loop_ind (step := (fun k a => fX3_hasWaitingPort_S2 k ct a)) (fun a => Bk p l e ({ frames := 0, cells := 0, slots := 0, locals := 0 }) s m args below meth c Q A0 D 2 0 0 (wX3 cI cZ A ct cw) [(0, .ref (A 0)), (1, .int a)] 2 []) ?_ _ _ hf
    clear hf
    intro k2 hk2 a hf
    obtain ⟨x1_, e_⟩ : ∃ z, z = a := ⟨a, rfl⟩
    subst e_
    clear x1
    obtain ⟨x1, e_⟩ : ∃ z, z = x1_ := ⟨_, rfl⟩
    subst e_
    have hf : fX3_hasWaitingPort_S2 k2 ct x1 = some res := hf
    show Bk p l e ({ frames := 0, cells := 0, slots := 0, locals := 0 }) s m args below meth c Q A0 D 2 0 0 (wX3 cI cZ A ct cw) [(0, .ref (A 0)), (1, .int x1)] 2 []
    unfold fX3_hasWaitingPort_S2 at hf
    intro H locs hP hD hS ls hl
    refine lv_iload_n hx hb dX3_hasWaitingPort_2 rfl (lv_at hl 1 rfl) ?_
    refine lv_bipush (v := 30) hx hb dX3_hasWaitingPort_3 (by decide) ?_
    refine lv_icmp_ge (tgt := 25) hx hb dX3_hasWaitingPort_5 (by decide) (fun c5 => ?_) (fun c5 => ?_)
    · have hf := if_t c5 hf
      refine lv_iconst (v := 0) hx hb dX3_hasWaitingPort_25 (by decide) ?_
      exact hR _ ls H locs _ _ (congrArg (fun q => q) (Option.some.inj hf)) rfl (by decide) dX3_hasWaitingPort_26 hP hD hS
    · have hf := if_f c5 hf
      refine lv_aload_n hx hb dX3_hasWaitingPort_8 rfl (lv_at hl 0 rfl) ?_
      refine ld_f S iX3 hK hP 0 8 (.ref (A 8)) (gX3_0 _ _ _ _ _) rfl (by decide) k34 rfl rfl dX3_hasWaitingPort_9 ?_
      refine lv_iload_n hx hb dX3_hasWaitingPort_12 rfl (lv_at hl 1 rfl) ?_
      obtain ⟨c13, hf⟩ := ck_t hf
      refine va_iald (f := ct 8) hx hb hK hP 8 0 (gX3_8 _ _ _ _ _) rfl (inb_in c13) dX3_hasWaitingPort_13 ?_
      refine lv_if_le (tgt := 19) hx hb dX3_hasWaitingPort_14 (by decide) (fun c14 => ?_) (fun c14 => ?_)
      · have hf := if_t c14 hf
        refine lv_iinc (v := x1 + 1) (lv' := [(1, .int (x1 + 1)), (0, .ref (A 0))]) hx hb dX3_hasWaitingPort_19 hl (k := 1) rfl rfl (by decide) rfl (fun ls hl => ?_)
        refine lv_goto (tgt := 2) hx hb dX3_hasWaitingPort_22 (by decide) ?_
        exact hk2 _ hf H locs hP hD hS ls (lv_sub hl [1, 0] rfl)
      · have hf := if_f c14 hf
        refine lv_iconst (v := 1) hx hb dX3_hasWaitingPort_17 (by decide) ?_
        exact hR _ ls H locs _ _ (congrArg (fun q => q) (Option.some.inj hf)) rfl (by decide) dX3_hasWaitingPort_18 hP hD hS
  intro H locs hP hD hS ls hl
  have hl : lv_has ls 2 [(0, .ref (A 0))] := hl
  unfold fX3_hasWaitingPort at hf
  refine lv_iconst (v := 0) hx hb dX3_hasWaitingPort_0 (by decide) ?_
  refine lv_istore_n (lv' := [(1, .int 0), (0, .ref (A 0))]) hx hb dX3_hasWaitingPort_1 rfl hl (by decide) rfl (fun ls hl => ?_)
  exact B2 _ hf H locs hP hD hS ls (lv_sub hl [1, 0] rfl)
set_option maxHeartbeats 4000000 in
set_option maxRecDepth 100000 in
theorem mX3_shorten (l : Launch) (D : va_G) (cI cZ : ClassId) (A : Nat → Nat)  (ct : St) (cw : St) (x1 : Int32) (x2 : Int32) (sz : Nat) (res : St) (hf : fX3_shorten ct x1 x2 = some res) : Met l yX3_shorten wsX3_shorten ({ frames := 0, cells := 0, slots := 0, locals := 0 }) (mP D (tysX cI cZ) [.ref (A 0), .int x1, .int x2] (wX3 cI cZ A ct cw) sz) (mQv D (wX3 cI cZ A ct cw) (wX3 cI cZ A res cw) sz) 0 0 (va_A (wX3 cI cZ A ct cw) sz) := by
  refine mkM_v (cc := cX3_shorten) (maxL := 3) (own := RX3) (by decide +kernel) rfl rfl (Nat.le_of_ble_eq_true rfl) ?_
  intro p e s m args below meth c A0 Q S hK hG hA hR
  obtain ⟨hx, hb, hml, hown, hts⟩ := id S
  have k52 := hts (.fieldLink RX3 52 "SwitchFloor$Tree" "way" "[I") (by decide +kernel)
  have iX3 : ∀ w ∈ wsX30, w ∈ wsX3_shorten := by decide +kernel
  have B20 : ∀ (ct : St) (x1 : Int32) (x2 : Int32), fX3_shorten_J20 ct x1 x2 = some res → Bk p l e ({ frames := 0, cells := 0, slots := 0, locals := 0 }) s m args below meth c Q A0 D 3 0 0 (wX3 cI cZ A ct cw) [(0, .ref (A 0)), (1, .int x1), (2, .int x2)] 20 [] := by
    intro ct x1 x2 hf
    unfold fX3_shorten_J20 at hf
    intro H locs hP hD hS ls hl
    refine lv_aload_n hx hb dX3_shorten_20 rfl (lv_at hl 0 rfl) ?_
    refine ld_f S iX3 hK hP 0 15 (.ref (A 14)) (gX3_0 _ _ _ _ _) rfl (by decide) k52 rfl rfl dX3_shorten_21 ?_
    refine lv_iload_n hx hb dX3_shorten_24 rfl (lv_at hl 1 rfl) ?_
    refine lv_iload_n hx hb dX3_shorten_25 rfl (lv_at hl 2 rfl) ?_
    obtain ⟨c26, hf⟩ := ck_t hf
    refine st_i hx hb hK hP hD hS 14 0 (sX3_14 _ _ _ _ _ _ _) (gX3_14 _ _ _ _ _) rfl c26 dX3_shorten_26 (fun H locs hP hD hS => ?_)
    exact hR _ ls H locs _ (congrArg (fun q => (wX3 cI cZ A q cw)) (Option.some.inj hf)) dX3_shorten_27 hP hD hS
  intro H locs hP hD hS ls hl
  have hl : lv_has ls 3 [(0, .ref (A 0)), (1, .int x1), (2, .int x2)] := hl
  unfold fX3_shorten at hf
  refine lv_aload_n hx hb dX3_shorten_0 rfl (lv_at hl 0 rfl) ?_
  refine ld_f S iX3 hK hP 0 15 (.ref (A 14)) (gX3_0 _ _ _ _ _) rfl (by decide) k52 rfl rfl dX3_shorten_1 ?_
  refine lv_iload_n hx hb dX3_shorten_4 rfl (lv_at hl 1 rfl) ?_
  obtain ⟨c5, hf⟩ := ck_t hf
  refine va_iald (f := ct 15) hx hb hK hP 14 0 (gX3_14 _ _ _ _ _) rfl (inb_in c5) dX3_shorten_5 ?_
  refine lv_iconst (v := (-1)) hx hb dX3_shorten_6 (by decide) ?_
  refine lv_icmp_eq (tgt := 20) hx hb dX3_shorten_7 (by decide) (fun c7 => ?_) (fun c7 => ?_)
  · have hf := if_t c7 hf
    exact B20 _ _ _ hf H locs hP hD hS ls (lv_sub hl [0, 1, 2] rfl)
  · have hf := if_f c7 hf
    refine lv_iload_n hx hb dX3_shorten_10 rfl (lv_at hl 2 rfl) ?_
    refine lv_aload_n hx hb dX3_shorten_11 rfl (lv_at hl 0 rfl) ?_
    refine ld_f S iX3 hK hP 0 15 (.ref (A 14)) (gX3_0 _ _ _ _ _) rfl (by decide) k52 rfl rfl dX3_shorten_12 ?_
    refine lv_iload_n hx hb dX3_shorten_15 rfl (lv_at hl 1 rfl) ?_
    obtain ⟨c16, hf⟩ := ck_t hf
    refine va_iald (f := ct 15) hx hb hK hP 14 0 (gX3_14 _ _ _ _ _) rfl (inb_in c16) dX3_shorten_16 ?_
    refine lv_icmp_ge (tgt := 27) hx hb dX3_shorten_17 (by decide) (fun c17 => ?_) (fun c17 => ?_)
    · have hf := if_t c17 hf
      exact hR _ ls H locs _ (congrArg (fun q => (wX3 cI cZ A q cw)) (Option.some.inj hf)) dX3_shorten_27 hP hD hS
    · have hf := if_f c17 hf
      exact B20 _ _ _ hf H locs hP hD hS ls (lv_sub hl [0, 1, 2] rfl)
set_option maxHeartbeats 4000000 in
set_option maxRecDepth 100000 in
theorem mX3_measureWays (l : Launch) (D : va_G) (cI cZ : ClassId) (A : Nat → Nat)  (ct : St) (cw : St) (x1 : Int32) (sz : Nat) (res : St) (hf : fX3_measureWays ct cw x1 = some res) : Met l yX3_measureWays wsX3_measureWays ({ frames := 2, cells := 0, slots := 0, locals := 43 }) (mP D (tysX cI cZ) [.ref (A 0), .int x1] (wX3 cI cZ A ct cw) sz) (mQv D (wX3 cI cZ A ct cw) (wX3 cI cZ A res cw) sz) 0 0 (va_A (wX3 cI cZ A ct cw) sz) := by
  refine mkM_v (cc := cX3_measureWays) (maxL := 4) (own := RX3) (by decide +kernel) rfl rfl (Nat.le_of_ble_eq_true rfl) ?_
  intro p e s m args below meth c A0 Q S hK hG hA hR
  obtain ⟨hx, hb, hml, hown, hts⟩ := id S
  have k52 := hts (.fieldLink RX3 52 "SwitchFloor$Tree" "way" "[I") (by decide +kernel)
  have iX3 : ∀ w ∈ wsX30, w ∈ wsX3_measureWays := by decide +kernel
  have k55 := hts (.fieldLink RX3 55 "SwitchFloor$Tree" "wiring" "LSwitchFloor$Wiring;") (by decide +kernel)
  have k63 := hts (.fieldLink RX3 63 "SwitchFloor$Wiring" "peer" "[I") (by decide +kernel)
  have iX4 : ∀ w ∈ wsX40, w ∈ wsX3_measureWays := by decide +kernel
  have k124 := hts (.fieldLink RX3 124 "SwitchFloor$Wiring" "cost" "[I") (by decide +kernel)
  have B40 : ∀ (x2 : Int32) (k32 : (St × Int32) → Option (St)) (hk32 : ∀ a32, k32 a32 = some res → Bk p l e ({ frames := 2, cells := 0, slots := 0, locals := 43 }) s m args below meth c Q A0 D 4 0 0 (wX3 cI cZ A (a32.1) cw) [(0, .ref (A 0)), (2, .int (a32.2))] 32 []) (ct : St) (x3 : Int32), fX3_measureWays_L40 k32 cw x2 ct x3 = some res → Bk p l e ({ frames := 2, cells := 0, slots := 0, locals := 43 }) s m args below meth c Q A0 D 4 0 0 (wX3 cI cZ A ct cw) [(0, .ref (A 0)), (2, .int x2), (3, .int x3)] 40 [] := by
    intro x2 k32 hk32 ct x3 hf
    refine loop_ind (step := (fun k a => fX3_measureWays_S40 k32 k cw x2 (a.1) (a.2))) (fun a => Bk p l e ({ frames := 2, cells := 0, slots := 0, locals := 43 }) s m args below meth c Q A0 D 4 0 0 (wX3 cI cZ A (a.1) cw) [(0, .ref (A 0)), (2, .int x2), (3, .int (a.2))] 40 []) ?_ _ _ hf
    clear hf
    intro k40 hk40 a hf
    obtain ⟨ct_, x3_⟩ := a
    clear ct x3
    obtain ⟨ct, e_⟩ : ∃ z, z = ct_ := ⟨_, rfl⟩
    subst e_
    obtain ⟨x3, e_⟩ : ∃ z, z = x3_ := ⟨_, rfl⟩
    subst e_
    have hf : fX3_measureWays_S40 k32 k40 cw x2 ct x3 = some res := hf
    show Bk p l e ({ frames := 2, cells := 0, slots := 0, locals := 43 }) s m args below meth c Q A0 D 4 0 0 (wX3 cI cZ A ct cw) [(0, .ref (A 0)), (2, .int x2), (3, .int x3)] 40 []
    unfold fX3_measureWays_S40 at hf
    intro H locs hP hD hS ls hl
    refine lv_iload_n hx hb dX3_measureWays_40 rfl (lv_at hl 2 rfl) ?_
    refine lv_bipush (v := 30) hx hb dX3_measureWays_41 (by decide) ?_
    refine lv_icmp_ge (tgt := 105) hx hb dX3_measureWays_43 (by decide) (fun c43 => ?_) (fun c43 => ?_)
    · have hf := if_t c43 hf
      refine lv_iinc (v := x2 + 1) (lv' := [(2, .int (x2 + 1)), (0, .ref (A 0)), (3, .int x3)]) hx hb dX3_measureWays_105 hl (k := 1) rfl rfl (by decide) rfl (fun ls hl => ?_)
      refine lv_goto (tgt := 32) hx hb dX3_measureWays_108 (by decide) ?_
      exact hk32 _ hf H locs hP hD hS ls (lv_sub hl [1, 0] rfl)
    · have hf := if_f c43 hf
      refine lv_aload_n hx hb dX3_measureWays_46 rfl (lv_at hl 0 rfl) ?_
      refine ld_f S iX3 hK hP 0 15 (.ref (A 14)) (gX3_0 _ _ _ _ _) rfl (by decide) k52 rfl rfl dX3_measureWays_47 ?_
      refine lv_iload_n hx hb dX3_measureWays_50 rfl (lv_at hl 2 rfl) ?_
      refine lv_iconst (v := 5) hx hb dX3_measureWays_51 (by decide) ?_
      refine lv_idiv hx hb dX3_measureWays_52 (by decide) ?_
      obtain ⟨c53, hf⟩ := ck_t hf
      refine va_iald (f := ct 15) hx hb hK hP 14 0 (gX3_14 _ _ _ _ _) rfl (inb_in c53) dX3_measureWays_53 ?_
      refine lv_iconst (v := (-1)) hx hb dX3_measureWays_54 (by decide) ?_
      refine lv_icmp_eq (tgt := 99) hx hb dX3_measureWays_55 (by decide) (fun c55 => ?_) (fun c55 => ?_)
      · have hf := if_t c55 hf
        refine lv_iinc (v := x3 + 1) (lv' := [(3, .int (x3 + 1)), (0, .ref (A 0)), (2, .int x2)]) hx hb dX3_measureWays_99 hl (k := 2) rfl rfl (by decide) rfl (fun ls hl => ?_)
        refine lv_goto (tgt := 40) hx hb dX3_measureWays_102 (by decide) ?_
        exact hk40 _ hf H locs hP hD hS ls (lv_sub hl [1, 2, 0] rfl)
      · have hf := if_f c55 hf
        refine lv_aload_n hx hb dX3_measureWays_58 rfl (lv_at hl 0 rfl) ?_
        refine lv_iload_n hx hb dX3_measureWays_59 rfl (lv_at hl 2 rfl) ?_
        obtain ⟨q60, h60, hf⟩ := bd_t hf
        refine cl_i (va_runV (As := [.int x3]) (rest := []) S (mX3_isJoined l D cI cZ A ct cw x3 H.size q60 h60) (cwV 1 hts gX3_measureWays_X3_isJoined rfl rfl rfl (by decide +kernel) ⟨Nat.le_of_ble_eq_true rfl, Nat.le_of_ble_eq_true rfl⟩) (mP_V (ci := 3) (Cut.self _ []) hP hD hK hG rfl (gX3_0 _ _ _ _ _)) rfl rfl hl.1 rfl (lv_room (Nat.le_of_ble_eq_true rfl)) dX3_measureWays_60 ⟨Nat.le_refl _, Nat.le_refl _⟩) (Cut.self _ _) hP hD hS hA (fun H locs hP hD hS => ?_)
        refine lv_if_eq (tgt := 99) hx hb dX3_measureWays_63 (by decide) (fun c63 => ?_) (fun c63 => ?_)
        · have hf := if_t c63 hf
          refine lv_iinc (v := x3 + 1) (lv' := [(3, .int (x3 + 1)), (0, .ref (A 0)), (2, .int x2)]) hx hb dX3_measureWays_99 hl (k := 2) rfl rfl (by decide) rfl (fun ls hl => ?_)
          refine lv_goto (tgt := 40) hx hb dX3_measureWays_102 (by decide) ?_
          exact hk40 _ hf H locs hP hD hS ls (lv_sub hl [1, 2, 0] rfl)
        · have hf := if_f c63 hf
          refine lv_aload_n hx hb dX3_measureWays_66 rfl (lv_at hl 0 rfl) ?_
          refine lv_aload_n hx hb dX3_measureWays_67 rfl (lv_at hl 0 rfl) ?_
          refine ld_f S iX3 hK hP 0 0 (.ref (A 15)) (gX3_0 _ _ _ _ _) rfl (by decide) k55 rfl rfl dX3_measureWays_68 ?_
          refine ld_f S iX4 hK hP 15 0 (.ref (A 16)) (gX3_15 _ _ _ _ _) rfl (by decide) k63 rfl rfl dX3_measureWays_71 ?_
          refine lv_iload_n hx hb dX3_measureWays_74 rfl (lv_at hl 2 rfl) ?_
          obtain ⟨c75, hf⟩ := ck_t hf
          refine va_iald (f := cw 0) hx hb hK hP 16 0 (gX3_16 _ _ _ _ _) rfl (inb_in c75) dX3_measureWays_75 ?_
          refine lv_iconst (v := 5) hx hb dX3_measureWays_76 (by decide) ?_
          refine lv_idiv hx hb dX3_measureWays_77 (by decide) ?_
          refine lv_aload_n hx hb dX3_measureWays_78 rfl (lv_at hl 0 rfl) ?_
          refine ld_f S iX3 hK hP 0 15 (.ref (A 14)) (gX3_0 _ _ _ _ _) rfl (by decide) k52 rfl rfl dX3_measureWays_79 ?_
          refine lv_iload_n hx hb dX3_measureWays_82 rfl (lv_at hl 2 rfl) ?_
          refine lv_iconst (v := 5) hx hb dX3_measureWays_83 (by decide) ?_
          refine lv_idiv hx hb dX3_measureWays_84 (by decide) ?_
          obtain ⟨c85, hf⟩ := ck_t hf
          refine va_iald (f := ct 15) hx hb hK hP 14 0 (gX3_14 _ _ _ _ _) rfl (inb_in c85) dX3_measureWays_85 ?_
          refine lv_aload_n hx hb dX3_measureWays_86 rfl (lv_at hl 0 rfl) ?_
          refine ld_f S iX3 hK hP 0 0 (.ref (A 15)) (gX3_0 _ _ _ _ _) rfl (by decide) k55 rfl rfl dX3_measureWays_87 ?_
          refine ld_f S iX4 hK hP 15 1 (.ref (A 17)) (gX3_15 _ _ _ _ _) rfl (by decide) k124 rfl rfl dX3_measureWays_90 ?_
          refine lv_iload_n hx hb dX3_measureWays_93 rfl (lv_at hl 2 rfl) ?_
          obtain ⟨c94, hf⟩ := ck_t hf
          refine va_iald (f := cw 1) hx hb hK hP 17 0 (gX3_17 _ _ _ _ _) rfl (inb_in c94) dX3_measureWays_94 ?_
          refine lv_iadd hx hb dX3_measureWays_95 ?_
          obtain ⟨q96, h96, hf⟩ := bd_t hf
          refine cl_v (va_runV (As := [.int ((cw 0 x3.toNatClampNeg) / 5), .int ((ct 15 (x3 / 5).toNatClampNeg) + (cw 1 x3.toNatClampNeg))]) (rest := []) S (mX3_shorten l D cI cZ A ct cw ((cw 0 x3.toNatClampNeg) / 5) ((ct 15 (x3 / 5).toNatClampNeg) + (cw 1 x3.toNatClampNeg)) H.size q96 h96) (cwV 2 hts gX3_measureWays_X3_shorten rfl rfl rfl (by decide +kernel) ⟨Nat.le_of_ble_eq_true rfl, Nat.le_of_ble_eq_true rfl⟩) (mP_V (ci := 3) (Cut.self _ []) hP hD hK hG rfl (gX3_0 _ _ _ _ _)) rfl rfl hl.1 rfl (lv_room (Nat.le_of_ble_eq_true rfl)) dX3_measureWays_96 ⟨Nat.le_refl _, Nat.le_refl _⟩) (Cut.self _ _) hP hD hS hA (fun H locs hP hD hS => ?_)
          refine lv_iinc (v := x3 + 1) (lv' := [(3, .int (x3 + 1)), (0, .ref (A 0)), (2, .int x2)]) hx hb dX3_measureWays_99 hl (k := 2) rfl rfl (by decide) rfl (fun ls hl => ?_)
          refine lv_goto (tgt := 40) hx hb dX3_measureWays_102 (by decide) ?_
          exact hk40 _ hf H locs hP hD hS ls (lv_sub hl [1, 2, 0] rfl)
  have B32 : ∀ (ct : St) (x2 : Int32), fX3_measureWays_L32 cw ct x2 = some res → Bk p l e ({ frames := 2, cells := 0, slots := 0, locals := 43 }) s m args below meth c Q A0 D 4 0 0 (wX3 cI cZ A ct cw) [(0, .ref (A 0)), (2, .int x2)] 32 [] := by
    intro ct x2 hf
    refine loop_ind (step := (fun k a => fX3_measureWays_S32 k cw (a.1) (a.2))) (fun a => Bk p l e ({ frames := 2, cells := 0, slots := 0, locals := 43 }) s m args below meth c Q A0 D 4 0 0 (wX3 cI cZ A (a.1) cw) [(0, .ref (A 0)), (2, .int (a.2))] 32 []) ?_ _ _ hf
    clear hf
    intro k32 hk32 a hf
    obtain ⟨ct_, x2_⟩ := a
    clear ct x2
    obtain ⟨ct, e_⟩ : ∃ z, z = ct_ := ⟨_, rfl⟩
    subst e_
    obtain ⟨x2, e_⟩ : ∃ z, z = x2_ := ⟨_, rfl⟩
    subst e_
    have hf : fX3_measureWays_S32 k32 cw ct x2 = some res := hf
    show Bk p l e ({ frames := 2, cells := 0, slots := 0, locals := 43 }) s m args below meth c Q A0 D 4 0 0 (wX3 cI cZ A ct cw) [(0, .ref (A 0)), (2, .int x2)] 32 []
    unfold fX3_measureWays_S32 at hf
    intro H locs hP hD hS ls hl
    refine lv_iload_n hx hb dX3_measureWays_32 rfl (lv_at hl 1 rfl) ?_
    refine lv_bipush (v := 6) hx hb dX3_measureWays_33 (by decide) ?_
    refine lv_icmp_ge (tgt := 111) hx hb dX3_measureWays_35 (by decide) (fun c35 => ?_) (fun c35 => ?_)
    · have hf := if_t c35 hf
      exact hR _ ls H locs _ (congrArg (fun q => (wX3 cI cZ A q cw)) (Option.some.inj hf)) dX3_measureWays_111 hP hD hS
    · have hf := if_f c35 hf
      refine lv_iconst (v := 0) hx hb dX3_measureWays_38 (by decide) ?_
      refine lv_istore_n (lv' := [(3, .int 0), (0, .ref (A 0)), (2, .int x2)]) hx hb dX3_measureWays_39 rfl hl (by decide) rfl (fun ls hl => ?_)
      exact B40 _ k32 hk32 _ _ hf H locs hP hD hS ls (lv_sub hl [1, 2, 0] rfl)
  have B30 : ∀ (ct : St), fX3_measureWays_J30 ct cw = some res → Bk p l e ({ frames := 2, cells := 0, slots := 0, locals := 43 }) s m args below meth c Q A0 D 4 0 0 (wX3 cI cZ A ct cw) [(0, .ref (A 0))] 30 [] := by
    intro ct hf
    unfold fX3_measureWays_J30 at hf
    intro H locs hP hD hS ls hl
    refine lv_iconst (v := 0) hx hb dX3_measureWays_30 (by decide) ?_
    refine lv_istore_n (lv' := [(2, .int 0), (0, .ref (A 0))]) hx hb dX3_measureWays_31 rfl hl (by decide) rfl (fun ls hl => ?_)
    exact B32 _ _ hf H locs hP hD hS ls (lv_sub hl [1, 0] rfl)
  have B23 : ∀ (ct : St) (x1 : Int32) (x2 : Int32) (y0 : Int32) (y1 : Int32) (k2 : (St × Int32) → Option (St)) (hk2 : ∀ a2, k2 a2 = some res → Bk p l e ({ frames := 2, cells := 0, slots := 0, locals := 43 }) s m args below meth c Q A0 D 4 0 0 (wX3 cI cZ A (a2.1) cw) [(0, .ref (A 0)), (1, .int x1), (2, .int (a2.2))] 2 []), fX3_measureWays_J23 k2 ct cw x1 x2 y0 y1 = some res → Bk p l e ({ frames := 2, cells := 0, slots := 0, locals := 43 }) s m args below meth c Q A0 D 4 0 0 (wX3 cI cZ A ct cw) [(0, .ref (A 0)), (1, .int x1), (2, .int x2)] 23 [.int y0, .int y1, .ref (A 14)] := by
    intro ct x1 x2 y0 y1 k2 hk2 hf
    unfold fX3_measureWays_J23 at hf
    intro H locs hP hD hS ls hl
    obtain ⟨c23, hf⟩ := ck_t hf
    refine st_i hx hb hK hP hD hS 14 0 (sX3_14 _ _ _ _ _ _ _) (gX3_14 _ _ _ _ _) rfl c23 dX3_measureWays_23 (fun H locs hP hD hS => ?_)
    refine lv_iinc (v := x2 + 1) (lv' := [(2, .int (x2 + 1)), (0, .ref (A 0)), (1, .int x1)]) hx hb dX3_measureWays_24 hl (k := 2) rfl rfl (by decide) rfl (fun ls hl => ?_)
    refine lv_goto (tgt := 2) hx hb dX3_measureWays_27 (by decide) ?_
    exact hk2 _ hf H locs hP hD hS ls (lv_sub hl [1, 2, 0] rfl)
  have B2 : ∀ (x1 : Int32) (ct : St) (x2 : Int32), fX3_measureWays_L2 cw x1 ct x2 = some res → Bk p l e ({ frames := 2, cells := 0, slots := 0, locals := 43 }) s m args below meth c Q A0 D 4 0 0 (wX3 cI cZ A ct cw) [(0, .ref (A 0)), (1, .int x1), (2, .int x2)] 2 [] := by
    intro x1 ct x2 hf
    refine loop_ind (step := (fun k a => fX3_measureWays_S2 k cw x1 (a.1) (a.2))) (fun a => Bk p l e ({ frames := 2, cells := 0, slots := 0, locals := 43 }) s m args below meth c Q A0 D 4 0 0 (wX3 cI cZ A (a.1) cw) [(0, .ref (A 0)), (1, .int x1), (2, .int (a.2))] 2 []) ?_ _ _ hf
    clear hf
    intro k2 hk2 a hf
    obtain ⟨ct_, x2_⟩ := a
    clear ct x2
    obtain ⟨ct, e_⟩ : ∃ z, z = ct_ := ⟨_, rfl⟩
    subst e_
    obtain ⟨x2, e_⟩ : ∃ z, z = x2_ := ⟨_, rfl⟩
    subst e_
    have hf : fX3_measureWays_S2 k2 cw x1 ct x2 = some res := hf
    show Bk p l e ({ frames := 2, cells := 0, slots := 0, locals := 43 }) s m args below meth c Q A0 D 4 0 0 (wX3 cI cZ A ct cw) [(0, .ref (A 0)), (1, .int x1), (2, .int x2)] 2 []
    unfold fX3_measureWays_S2 at hf
    intro H locs hP hD hS ls hl
    refine lv_iload_n hx hb dX3_measureWays_2 rfl (lv_at hl 2 rfl) ?_
    refine lv_bipush (v := 6) hx hb dX3_measureWays_3 (by decide) ?_
    refine lv_icmp_ge (tgt := 30) hx hb dX3_measureWays_5 (by decide) (fun c5 => ?_) (fun c5 => ?_)
    · have hf := if_t c5 hf
      exact B30 _ hf H locs hP hD hS ls (lv_sub hl [0] rfl)
    · have hf := if_f c5 hf
      refine lv_aload_n hx hb dX3_measureWays_8 rfl (lv_at hl 0 rfl) ?_
      refine ld_f S iX3 hK hP 0 15 (.ref (A 14)) (gX3_0 _ _ _ _ _) rfl (by decide) k52 rfl rfl dX3_measureWays_9 ?_
      refine lv_iload_n hx hb dX3_measureWays_12 rfl (lv_at hl 2 rfl) ?_
      refine lv_iload_n hx hb dX3_measureWays_13 rfl (lv_at hl 2 rfl) ?_
      refine lv_iload_n hx hb dX3_measureWays_14 rfl (lv_at hl 1 rfl) ?_
      refine lv_icmp_ne (tgt := 22) hx hb dX3_measureWays_15 (by decide) (fun c15 => ?_) (fun c15 => ?_)
      · have hf := if_f c15 hf
        refine lv_iconst (v := (-1)) hx hb dX3_measureWays_22 (by decide) ?_
        exact B23 _ _ _ _ _ k2 hk2 hf H locs hP hD hS ls (lv_sub hl [0, 1, 2] rfl)
      · have hf := if_t c15 hf
        refine lv_iconst (v := 0) hx hb dX3_measureWays_18 (by decide) ?_
        refine lv_goto (tgt := 23) hx hb dX3_measureWays_19 (by decide) ?_
        exact B23 _ _ _ _ _ k2 hk2 hf H locs hP hD hS ls (lv_sub hl [0, 1, 2] rfl)
  intro H locs hP hD hS ls hl
  have hl : lv_has ls 4 [(0, .ref (A 0)), (1, .int x1)] := hl
  unfold fX3_measureWays at hf
  refine lv_iconst (v := 0) hx hb dX3_measureWays_0 (by decide) ?_
  refine lv_istore_n (lv' := [(2, .int 0), (0, .ref (A 0)), (1, .int x1)]) hx hb dX3_measureWays_1 rfl hl (by decide) rfl (fun ls hl => ?_)
  exact B2 _ _ _ hf H locs hP hD hS ls (lv_sub hl [1, 2, 0] rfl)

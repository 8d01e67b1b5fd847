set_option maxHeartbeats 4000000 in
set_option maxRecDepth 100000 in
theorem mX5_needSwitch (l : Launch) (D : va_G) (cI cZ : ClassId)  (x0 : Int32) (sz : Nat) (res : Unit) (hf : fX5_needSwitch x0 = some (.inl res)) : Met l yX5_needSwitch wsX5_needSwitch ({ frames := 6, cells := 0, slots := 0, locals := 96 }) (mP D (tysX cI cZ) [.int x0] [] sz) (mQv D [] [] sz) 0 0 (va_A [] sz) := by
  refine mkM_v (cc := cX5_needSwitch) (maxL := 1) (own := RX5) (by decide +kernel) rfl rfl (Nat.le_of_ble_eq_true rfl) ?_
  intro p e s m args below meth c A0 Q S hK hG hA hR
  obtain ⟨hx, hb, hml, hown, hts⟩ := id S
  intro H locs hP hD hS ls hl
  have hl : lv_has ls 1 [(0, .int x0)] := hl
  unfold fX5_needSwitch at hf
  refine lv_iload_n hx hb dX5_needSwitch_0 rfl (lv_at hl 0 rfl) ?_
  refine lv_if_lt (tgt := 10) hx hb dX5_needSwitch_1 (by decide) (fun c1 => ?_) (fun c1 => ?_)
  · have hf := if_t c1 hf
    cases hf
  · have hf := if_f c1 hf
    refine lv_iload_n hx hb dX5_needSwitch_4 rfl (lv_at hl 0 rfl) ?_
    refine lv_bipush (v := 6) hx hb dX5_needSwitch_5 (by decide) ?_
    refine lv_icmp_lt (tgt := 20) hx hb dX5_needSwitch_7 (by decide) (fun c7 => ?_) (fun c7 => ?_)
    · have hf := if_t c7 hf
      exact hR _ ls H locs _ rfl dX5_needSwitch_20 hP hD hS
    · have hf := if_f c7 hf
      cases hf
set_option maxHeartbeats 4000000 in
set_option maxRecDepth 100000 in
theorem mX5_needPort (l : Launch) (D : va_G) (cI cZ : ClassId)  (x0 : Int32) (x1 : Int32) (sz : Nat) (res : Unit) (hf : fX5_needPort x0 x1 = some (.inl res)) : Met l yX5_needPort wsX5_needPort ({ frames := 7, cells := 0, slots := 0, locals := 116 }) (mP D (tysX cI cZ) [.int x0, .int x1] [] sz) (mQv D [] [] sz) 0 0 (va_A [] sz) := by
  refine mkM_v (cc := cX5_needPort) (maxL := 2) (own := RX5) (by decide +kernel) rfl rfl (Nat.le_of_ble_eq_true rfl) ?_
  intro p e s m args below meth c A0 Q S hK hG hA hR
  obtain ⟨hx, hb, hml, hown, hts⟩ := id S
  intro H locs hP hD hS ls hl
  have hl : lv_has ls 2 [(0, .int x0), (1, .int x1)] := hl
  unfold fX5_needPort at hf
  refine lv_iload_n hx hb dX5_needPort_0 rfl (lv_at hl 0 rfl) ?_
  obtain ⟨q1, h1, hf⟩ := bx_l hf
  refine cl_v (va_runS (As := [.int x0]) (rest := []) S (mX5_needSwitch l D cI cZ x0 H.size q1 h1) (va_cwS 1 hts gX5_needPort_X5_needSwitch rfl rfl rfl (by decide +kernel) ⟨Nat.le_of_ble_eq_true rfl, Nat.le_of_ble_eq_true rfl⟩) (mP_S (Cut.nil _) hP hD hK hG) rfl rfl hl.1 rfl (lv_room (Nat.le_of_ble_eq_true rfl)) dX5_needPort_1 ⟨Nat.le_refl _, Nat.le_refl _⟩) (Cut.nil _) hP hD hS hA (fun H locs hP hD hS => ?_)
  refine lv_iload_n hx hb dX5_needPort_4 rfl (lv_at hl 1 rfl) ?_
  refine lv_if_lt (tgt := 13) hx hb dX5_needPort_5 (by decide) (fun c5 => ?_) (fun c5 => ?_)
  · have hf := if_t c5 hf
    cases hf
  · have hf := if_f c5 hf
    refine lv_iload_n hx hb dX5_needPort_8 rfl (lv_at hl 1 rfl) ?_
    refine lv_iconst (v := 5) hx hb dX5_needPort_9 (by decide) ?_
    refine lv_icmp_lt (tgt := 24) hx hb dX5_needPort_10 (by decide) (fun c10 => ?_) (fun c10 => ?_)
    · have hf := if_t c10 hf
      exact hR _ ls H locs _ rfl dX5_needPort_24 hP hD hS
    · have hf := if_f c10 hf
      cases hf
set_option maxHeartbeats 4000000 in
set_option maxRecDepth 100000 in
theorem mX5_needWithin (l : Launch) (D : va_G) (cI cZ : ClassId)  (x0 : Int32) (x1 : Int32) (x2 : Int32) (sz : Nat) (res : Unit) (hf : fX5_needWithin x0 x1 x2 = some (.inl res)) : Met l yX5_needWithin wsX5_needWithin ({ frames := 6, cells := 0, slots := 0, locals := 96 }) (mP D (tysX cI cZ) [.int x0, .int x1, .int x2] [] sz) (mQv D [] [] sz) 0 0 (va_A [] sz) := by
  refine mkM_v (cc := cX5_needWithin) (maxL := 3) (own := RX5) (by decide +kernel) rfl rfl (Nat.le_of_ble_eq_true rfl) ?_
  intro p e s m args below meth c A0 Q S hK hG hA hR
  obtain ⟨hx, hb, hml, hown, hts⟩ := id S
  intro H locs hP hD hS ls hl
  have hl : lv_has ls 3 [(0, .int x0), (1, .int x1), (2, .int x2)] := hl
  unfold fX5_needWithin at hf
  refine lv_iload_n hx hb dX5_needWithin_0 rfl (lv_at hl 0 rfl) ?_
  refine lv_iload_n hx hb dX5_needWithin_1 rfl (lv_at hl 1 rfl) ?_
  refine lv_icmp_lt (tgt := 10) hx hb dX5_needWithin_2 (by decide) (fun c2 => ?_) (fun c2 => ?_)
  · have hf := if_t c2 hf
    cases hf
  · have hf := if_f c2 hf
    refine lv_iload_n hx hb dX5_needWithin_5 rfl (lv_at hl 0 rfl) ?_
    refine lv_iload_n hx hb dX5_needWithin_6 rfl (lv_at hl 2 rfl) ?_
    refine lv_icmp_le (tgt := 21) hx hb dX5_needWithin_7 (by decide) (fun c7 => ?_) (fun c7 => ?_)
    · have hf := if_t c7 hf
      exact hR _ ls H locs _ rfl dX5_needWithin_21 hP hD hS
    · have hf := if_f c7 hf
      cases hf
set_option maxHeartbeats 4000000 in
set_option maxRecDepth 100000 in
theorem mX5_wire (l : Launch) (D : va_G) (cI cZ : ClassId) (A : Nat → Nat)  (cs : St) (cw : St) (ct : St) (cu : St) (cl : St) (cb : St) (cp : St) (x1 : Int32) (x2 : Int32) (x3 : Int32) (x4 : Int32) (x5 : Int32) (sz : Nat) (res : Int32 × St) (hf : fX5_wire cw x1 x2 x3 x4 x5 = some (.inl res)) : Met l yX5_wire wsX5_wire ({ frames := 8, cells := 0, slots := 0, locals := 137 }) (mP D (tysX cI cZ) [.ref (A 0), .int x1, .int x2, .int x3, .int x4, .int x5] (wX5 cI cZ A cs cw ct cu cl cb cp) sz) (mQi D res.1 (wX5 cI cZ A cs cw ct cu cl cb cp) (wX5 cI cZ A cs (res.2) ct cu cl cb cp) sz) 0 0 (va_A (wX5 cI cZ A cs cw ct cu cl cb cp) sz) := by
  refine mkM_i (cc := cX5_wire) (maxL := 8) (own := RX5) (by decide +kernel) rfl rfl (Nat.le_of_ble_eq_true rfl) ?_
  intro p e s m args below meth c A0 Q S hK hG hA hR
  obtain ⟨hx, hb, hml, hown, hts⟩ := id S
  have k12 := hts (.fieldLink RX5 12 "SwitchFloor" "wiring" "LSwitchFloor$Wiring;") (by decide +kernel)
  have iX5 : ∀ w ∈ wsX50, w ∈ wsX5_wire := by decide +kernel
  have k94 := hts (.fieldLink RX5 94 "SwitchFloor$Wiring" "wires" "I") (by decide +kernel)
  have iX4 : ∀ w ∈ wsX40, w ∈ wsX5_wire := by decide +kernel
  intro H locs hP hD hS ls hl
  have hl : lv_has ls 8 [(0, .ref (A 0)), (1, .int x1), (2, .int x2), (3, .int x3), (4, .int x4), (5, .int x5)] := hl
  unfold fX5_wire at hf
  refine lv_iload_n hx hb dX5_wire_0 rfl (lv_at hl 1 rfl) ?_
  refine lv_iload_n hx hb dX5_wire_1 rfl (lv_at hl 2 rfl) ?_
  obtain ⟨q2, h2, hf⟩ := bx_l hf
  refine cl_v (va_runS (As := [.int x1, .int x2]) (rest := []) S (mX5_needPort l D cI cZ x1 x2 H.size q2 h2) (va_cwS 2 hts gX5_wire_X5_needPort rfl rfl rfl (by decide +kernel) ⟨Nat.le_of_ble_eq_true rfl, Nat.le_of_ble_eq_true rfl⟩) (mP_S (Cut.nil _) hP hD hK hG) rfl rfl hl.1 rfl (lv_room (Nat.le_of_ble_eq_true rfl)) dX5_wire_2 ⟨Nat.le_refl _, Nat.le_refl _⟩) (Cut.nil _) hP hD hS hA (fun H locs hP hD hS => ?_)
  refine lv_iload_n hx hb dX5_wire_5 rfl (lv_at hl 3 rfl) ?_
  refine lv_iload hx hb dX5_wire_6 (lv_at hl 4 rfl) ?_
  obtain ⟨q8, h8, hf⟩ := bx_l hf
  refine cl_v (va_runS (As := [.int x3, .int x4]) (rest := []) S (mX5_needPort l D cI cZ x3 x4 H.size q8 h8) (va_cwS 2 hts gX5_wire_X5_needPort rfl rfl rfl (by decide +kernel) ⟨Nat.le_of_ble_eq_true rfl, Nat.le_of_ble_eq_true rfl⟩) (mP_S (Cut.nil _) hP hD hK hG) rfl rfl hl.1 rfl (lv_room (Nat.le_of_ble_eq_true rfl)) dX5_wire_8 ⟨Nat.le_refl _, Nat.le_refl _⟩) (Cut.nil _) hP hD hS hA (fun H locs hP hD hS => ?_)
  refine lv_iload_n hx hb dX5_wire_11 rfl (lv_at hl 1 rfl) ?_
  refine lv_iload_n hx hb dX5_wire_12 rfl (lv_at hl 3 rfl) ?_
  refine lv_icmp_ne (tgt := 26) hx hb dX5_wire_13 (by decide) (fun c13 => ?_) (fun c13 => ?_)
  · have hf := if_f c13 hf
    refine lv_iload hx hb dX5_wire_26 (lv_at hl 5 rfl) ?_
    refine lv_iconst (v := 1) hx hb dX5_wire_28 (by decide) ?_
    refine lv_bipush (v := 100) hx hb dX5_wire_29 (by decide) ?_
    obtain ⟨q31, h31, hf⟩ := bx_l hf
    refine cl_v (va_runS (As := [.int x5, .int 1, .int 100]) (rest := []) S (mX5_needWithin l D cI cZ x5 1 100 H.size q31 h31) (va_cwS 3 hts gX5_wire_X5_needWithin rfl rfl rfl (by decide +kernel) ⟨Nat.le_of_ble_eq_true rfl, Nat.le_of_ble_eq_true rfl⟩) (mP_S (Cut.nil _) hP hD hK hG) rfl rfl hl.1 rfl (lv_room (Nat.le_of_ble_eq_true rfl)) dX5_wire_31 ⟨Nat.le_refl _, Nat.le_refl _⟩) (Cut.nil _) hP hD hS hA (fun H locs hP hD hS => ?_)
    refine lv_iload_n hx hb dX5_wire_34 rfl (lv_at hl 1 rfl) ?_
    refine lv_iload_n hx hb dX5_wire_35 rfl (lv_at hl 2 rfl) ?_
    obtain ⟨q36, h36, hf⟩ := bd_t hf
    refine cl_i (va_runS (As := [.int x1, .int x2]) (rest := []) S (mX5_spotOf l D cI cZ x1 x2 H.size q36 h36) (va_cwS 2 hts gX5_wire_X5_spotOf rfl rfl rfl (by decide +kernel) ⟨Nat.le_of_ble_eq_true rfl, Nat.le_of_ble_eq_true rfl⟩) (mP_S (Cut.nil _) hP hD hK hG) rfl rfl hl.1 rfl (lv_room (Nat.le_of_ble_eq_true rfl)) dX5_wire_36 ⟨Nat.le_refl _, Nat.le_refl _⟩) (Cut.nil _) hP hD hS hA (fun H locs hP hD hS => ?_)
    refine lv_istore (lv' := [(6, .int q36), (0, .ref (A 0)), (1, .int x1), (2, .int x2), (3, .int x3), (4, .int x4), (5, .int x5)]) hx hb dX5_wire_39 hl (by decide) rfl (fun ls hl => ?_)
    refine lv_iload_n hx hb dX5_wire_41 rfl (lv_at hl 4 rfl) ?_
    refine lv_iload hx hb dX5_wire_42 (lv_at hl 5 rfl) ?_
    obtain ⟨q44, h44, hf⟩ := bd_t hf
    refine cl_i (va_runS (As := [.int x3, .int x4]) (rest := []) S (mX5_spotOf l D cI cZ x3 x4 H.size q44 h44) (va_cwS 2 hts gX5_wire_X5_spotOf rfl rfl rfl (by decide +kernel) ⟨Nat.le_of_ble_eq_true rfl, Nat.le_of_ble_eq_true rfl⟩) (mP_S (Cut.nil _) hP hD hK hG) rfl rfl hl.1 rfl (lv_room (Nat.le_of_ble_eq_true rfl)) dX5_wire_44 ⟨Nat.le_refl _, Nat.le_refl _⟩) (Cut.nil _) hP hD hS hA (fun H locs hP hD hS => ?_)
    refine lv_istore (lv' := [(7, .int q44), (6, .int q36), (0, .ref (A 0)), (1, .int x1), (2, .int x2), (3, .int x3), (4, .int x4), (5, .int x5)]) hx hb dX5_wire_47 hl (by decide) rfl (fun ls hl => ?_)
    refine lv_aload_n hx hb dX5_wire_49 rfl (lv_at hl 2 rfl) ?_
    refine ld_f S iX5 hK hP 0 0 (.ref (A 4)) (gX5_0 _ _ _ _ _ _ _ _ _ _) rfl (by decide) k12 rfl rfl dX5_wire_50 ?_
    refine lv_iload hx hb dX5_wire_53 (lv_at hl 1 rfl) ?_
    obtain ⟨q55, h55, hf⟩ := bd_t hf
    refine cl_i (va_runV (As := [.int q36]) (rest := []) S (mX4_isBare l D cI cZ (aX5_X4_1 A) cw q36 H.size q55 h55) (cwV 1 hts gX5_wire_X4_isBare rfl rfl rfl (by decide +kernel) ⟨Nat.le_of_ble_eq_true rfl, Nat.le_of_ble_eq_true rfl⟩) (mP_V (ci := 4) (cutX5_X4_1 _ _ _ _ _ _ _ _ _ _ st0) hP hD hK hG rfl (gX4_0 _ _ _ _)) rfl rfl hl.1 rfl (lv_room (Nat.le_of_ble_eq_true rfl)) dX5_wire_55 ⟨Nat.le_refl _, Nat.le_refl _⟩) (cutX5_X4_1 _ _ _ _ _ _ _ _ _ _ _) hP hD hS hA (fun H locs hP hD hS => ?_)
    refine lv_if_eq (tgt := 73) hx hb dX5_wire_58 (by decide) (fun c58 => ?_) (fun c58 => ?_)
    · have hf := if_t c58 hf
      cases hf
    · have hf := if_f c58 hf
      refine lv_aload_n hx hb dX5_wire_61 rfl (lv_at hl 2 rfl) ?_
      refine ld_f S iX5 hK hP 0 0 (.ref (A 4)) (gX5_0 _ _ _ _ _ _ _ _ _ _) rfl (by decide) k12 rfl rfl dX5_wire_62 ?_
      refine lv_iload hx hb dX5_wire_65 (lv_at hl 0 rfl) ?_
      obtain ⟨q67, h67, hf⟩ := bd_t hf
      refine cl_i (va_runV (As := [.int q44]) (rest := []) S (mX4_isBare l D cI cZ (aX5_X4_1 A) cw q44 H.size q67 h67) (cwV 1 hts gX5_wire_X4_isBare rfl rfl rfl (by decide +kernel) ⟨Nat.le_of_ble_eq_true rfl, Nat.le_of_ble_eq_true rfl⟩) (mP_V (ci := 4) (cutX5_X4_1 _ _ _ _ _ _ _ _ _ _ st0) hP hD hK hG rfl (gX4_0 _ _ _ _)) rfl rfl hl.1 rfl (lv_room (Nat.le_of_ble_eq_true rfl)) dX5_wire_67 ⟨Nat.le_refl _, Nat.le_refl _⟩) (cutX5_X4_1 _ _ _ _ _ _ _ _ _ _ _) hP hD hS hA (fun H locs hP hD hS => ?_)
      refine lv_if_ne (tgt := 83) hx hb dX5_wire_70 (by decide) (fun c70 => ?_) (fun c70 => ?_)
      · have hf := if_f c70 hf
        refine lv_aload_n hx hb dX5_wire_83 rfl (lv_at hl 2 rfl) ?_
        refine ld_f S iX5 hK hP 0 0 (.ref (A 4)) (gX5_0 _ _ _ _ _ _ _ _ _ _) rfl (by decide) k12 rfl rfl dX5_wire_84 ?_
        refine lv_iload hx hb dX5_wire_87 (lv_at hl 1 rfl) ?_
        refine lv_iload hx hb dX5_wire_89 (lv_at hl 0 rfl) ?_
        refine lv_iload hx hb dX5_wire_91 (lv_at hl 7 rfl) ?_
        obtain ⟨q93, h93, hf⟩ := bd_t hf
        refine cl_v (va_runV (As := [.int q36, .int q44, .int x5]) (rest := []) S (mX4_putWire l D cI cZ (aX5_X4_1 A) cw q36 q44 x5 H.size q93 h93) (cwV 3 hts gX5_wire_X4_putWire rfl rfl rfl (by decide +kernel) ⟨Nat.le_of_ble_eq_true rfl, Nat.le_of_ble_eq_true rfl⟩) (mP_V (ci := 4) (cutX5_X4_1 _ _ _ _ _ _ _ _ _ _ st0) hP hD hK hG rfl (gX4_0 _ _ _ _)) rfl rfl hl.1 rfl (lv_room (Nat.le_of_ble_eq_true rfl)) dX5_wire_93 ⟨Nat.le_refl _, Nat.le_refl _⟩) (cutX5_X4_1 _ _ _ _ _ _ _ _ _ _ _) hP hD hS hA (fun H locs hP hD hS => ?_)
        refine lv_aload_n hx hb dX5_wire_96 rfl (lv_at hl 2 rfl) ?_
        refine ld_f S iX5 hK hP 0 0 (.ref (A 4)) (gX5_0 _ _ _ _ _ _ _ _ _ _) rfl (by decide) k12 rfl rfl dX5_wire_97 ?_
        refine ld_f S iX4 hK hP 4 6 (.int (q93 6 0)) (gX5_4 _ _ _ _ _ _ _ _ _ _) rfl (by decide) k94 rfl rfl dX5_wire_100 ?_
        exact hR _ ls H locs _ _ (congrArg (fun q => q.1) (Sum.inl.inj (Option.some.inj hf))) (congrArg (fun q => (wX5 cI cZ A cs (q.2) ct cu cl cb cp)) (Sum.inl.inj (Option.some.inj hf))) rfl dX5_wire_103 hP hD hS
      · have hf := if_t c70 hf
        cases hf
  · have hf := if_t c13 hf
    cases hf
set_option maxHeartbeats 4000000 in
set_option maxRecDepth 100000 in
theorem mX5_dropUse (l : Launch) (D : va_G) (cI cZ : ClassId) (A : Nat → Nat)  (cs : St) (cw : St) (ct : St) (cu : St) (cl : St) (cb : St) (cp : St) (x1 : Int32) (sz : Nat) (res : St × St) (hf : fX5_dropUse ct cb x1 = some res) : Met l yX5_dropUse wsX5_dropUse ({ frames := 2, cells := 0, slots := 0, locals := 44 }) (mP D (tysX cI cZ) [.ref (A 0), .int x1] (wX5 cI cZ A cs cw ct cu cl cb cp) sz) (mQv D (wX5 cI cZ A cs cw ct cu cl cb cp) (wX5 cI cZ A cs cw (res.1) cu cl (res.2) cp) sz) 0 0 (va_A (wX5 cI cZ A cs cw ct cu cl cb cp) sz) := by
  refine mkM_v (cc := cX5_dropUse) (maxL := 2) (own := RX5) (by decide +kernel) rfl rfl (Nat.le_of_ble_eq_true rfl) ?_
  intro p e s m args below meth c A0 Q S hK hG hA hR
  obtain ⟨hx, hb, hml, hown, hts⟩ := id S
  have k21 := hts (.fieldLink RX5 21 "SwitchFloor" "tree" "LSwitchFloor$Tree;") (by decide +kernel)
  have iX5 : ∀ w ∈ wsX50, w ∈ wsX5_dropUse := by decide +kernel
  have k38 := hts (.fieldLink RX5 38 "SwitchFloor" "tables" "LSwitchFloor$Tables;") (by decide +kernel)
  intro H locs hP hD hS ls hl
  have hl : lv_has ls 2 [(0, .ref (A 0)), (1, .int x1)] := hl
  unfold fX5_dropUse at hf
  refine lv_aload_n hx hb dX5_dropUse_0 rfl (lv_at hl 0 rfl) ?_
  refine ld_f S iX5 hK hP 0 1 (.ref (A 11)) (gX5_0 _ _ _ _ _ _ _ _ _ _) rfl (by decide) k21 rfl rfl dX5_dropUse_1 ?_
  refine lv_iload_n hx hb dX5_dropUse_4 rfl (lv_at hl 1 rfl) ?_
  obtain ⟨q5, h5, hf⟩ := bd_t hf
  refine cl_v (va_runV (As := [.int x1]) (rest := []) S (mX3_close l D cI cZ (aX5_X3_2_1 A) ct cw x1 H.size q5 h5) (cwV 1 hts gX5_dropUse_X3_close rfl rfl rfl (by decide +kernel) ⟨Nat.le_of_ble_eq_true rfl, Nat.le_of_ble_eq_true rfl⟩) (mP_V (ci := 3) (cutX5_X3_2_1 _ _ _ _ _ _ _ _ _ _ st0 st0) hP hD hK hG rfl (gX3_0 _ _ _ _ _)) rfl rfl hl.1 rfl (lv_room (Nat.le_of_ble_eq_true rfl)) dX5_dropUse_5 ⟨Nat.le_refl _, Nat.le_refl _⟩) (cutX5_X3_2_1 _ _ _ _ _ _ _ _ _ _ _ _) hP hD hS hA (fun H locs hP hD hS => ?_)
  refine lv_aload_n hx hb dX5_dropUse_8 rfl (lv_at hl 0 rfl) ?_
  refine ld_f S iX5 hK hP 0 4 (.ref (A 44)) (gX5_0 _ _ _ _ _ _ _ _ _ _) rfl (by decide) k38 rfl rfl dX5_dropUse_9 ?_
  refine lv_iload_n hx hb dX5_dropUse_12 rfl (lv_at hl 1 rfl) ?_
  obtain ⟨q13, h13, hf⟩ := bd_t hf
  refine cl_v (va_runV (As := [.int x1]) (rest := []) S (mX2_forgetPort l D cI cZ (aX5_X2_5 A) cb x1 H.size q13 h13) (cwV 1 hts gX5_dropUse_X2_forgetPort rfl rfl rfl (by decide +kernel) ⟨Nat.le_of_ble_eq_true rfl, Nat.le_of_ble_eq_true rfl⟩) (mP_V (ci := 2) (cutX5_X2_5 _ _ _ _ _ _ _ _ _ _ st0) hP hD hK hG rfl (gX2_0 _ _ _ _)) rfl rfl hl.1 rfl (lv_room (Nat.le_of_ble_eq_true rfl)) dX5_dropUse_13 ⟨Nat.le_refl _, Nat.le_refl _⟩) (cutX5_X2_5 _ _ _ _ _ _ _ _ _ _ _) hP hD hS hA (fun H locs hP hD hS => ?_)
  exact hR _ ls H locs _ (congrArg (fun q => (wX5 cI cZ A cs cw (q.1) cu cl (q.2) cp)) (Option.some.inj hf)) dX5_dropUse_16 hP hD hS
set_option maxHeartbeats 4000000 in
set_option maxRecDepth 100000 in
theorem mX5_free (l : Launch) (D : va_G) (cI cZ : ClassId) (A : Nat → Nat)  (cs : St) (cw : St) (ct : St) (cu : St) (cl : St) (cb : St) (cp : St) (x1 : Int32) (x2 : Int32) (sz : Nat) (res : Int32 × St × St × St) (hf : fX5_free cw ct cb x1 x2 = some (.inl res)) : Met l yX5_free wsX5_free ({ frames := 8, cells := 0, slots := 0, locals := 137 }) (mP D (tysX cI cZ) [.ref (A 0), .int x1, .int x2] (wX5 cI cZ A cs cw ct cu cl cb cp) sz) (mQi D res.1 (wX5 cI cZ A cs cw ct cu cl cb cp) (wX5 cI cZ A cs (res.2.1) (res.2.2.1) cu cl (res.2.2.2) cp) sz) 0 0 (va_A (wX5 cI cZ A cs cw ct cu cl cb cp) sz) := by
  refine mkM_i (cc := cX5_free) (maxL := 5) (own := RX5) (by decide +kernel) rfl rfl (Nat.le_of_ble_eq_true rfl) ?_
  intro p e s m args below meth c A0 Q S hK hG hA hR
  obtain ⟨hx, hb, hml, hown, hts⟩ := id S
  have k12 := hts (.fieldLink RX5 12 "SwitchFloor" "wiring" "LSwitchFloor$Wiring;") (by decide +kernel)
  have iX5 : ∀ w ∈ wsX50, w ∈ wsX5_free := by decide +kernel
  have k99 := hts (.fieldLink RX5 99 "SwitchFloor$Wiring" "peer" "[I") (by decide +kernel)
  have iX4 : ∀ w ∈ wsX40, w ∈ wsX5_free := by decide +kernel
  intro H locs hP hD hS ls hl
  have hl : lv_has ls 5 [(0, .ref (A 0)), (1, .int x1), (2, .int x2)] := hl
  unfold fX5_free at hf
  refine lv_iload_n hx hb dX5_free_0 rfl (lv_at hl 1 rfl) ?_
  refine lv_iload_n hx hb dX5_free_1 rfl (lv_at hl 2 rfl) ?_
  obtain ⟨q2, h2, hf⟩ := bx_l hf
  refine cl_v (va_runS (As := [.int x1, .int x2]) (rest := []) S (mX5_needPort l D cI cZ x1 x2 H.size q2 h2) (va_cwS 2 hts gX5_free_X5_needPort rfl rfl rfl (by decide +kernel) ⟨Nat.le_of_ble_eq_true rfl, Nat.le_of_ble_eq_true rfl⟩) (mP_S (Cut.nil _) hP hD hK hG) rfl rfl hl.1 rfl (lv_room (Nat.le_of_ble_eq_true rfl)) dX5_free_2 ⟨Nat.le_refl _, Nat.le_refl _⟩) (Cut.nil _) hP hD hS hA (fun H locs hP hD hS => ?_)
  refine lv_iload_n hx hb dX5_free_5 rfl (lv_at hl 1 rfl) ?_
  refine lv_iload_n hx hb dX5_free_6 rfl (lv_at hl 2 rfl) ?_
  obtain ⟨q7, h7, hf⟩ := bd_t hf
  refine cl_i (va_runS (As := [.int x1, .int x2]) (rest := []) S (mX5_spotOf l D cI cZ x1 x2 H.size q7 h7) (va_cwS 2 hts gX5_free_X5_spotOf rfl rfl rfl (by decide +kernel) ⟨Nat.le_of_ble_eq_true rfl, Nat.le_of_ble_eq_true rfl⟩) (mP_S (Cut.nil _) hP hD hK hG) rfl rfl hl.1 rfl (lv_room (Nat.le_of_ble_eq_true rfl)) dX5_free_7 ⟨Nat.le_refl _, Nat.le_refl _⟩) (Cut.nil _) hP hD hS hA (fun H locs hP hD hS => ?_)
  refine lv_istore_n (lv' := [(3, .int q7), (0, .ref (A 0)), (1, .int x1), (2, .int x2)]) hx hb dX5_free_10 rfl hl (by decide) rfl (fun ls hl => ?_)
  refine lv_aload_n hx hb dX5_free_11 rfl (lv_at hl 1 rfl) ?_
  refine ld_f S iX5 hK hP 0 0 (.ref (A 4)) (gX5_0 _ _ _ _ _ _ _ _ _ _) rfl (by decide) k12 rfl rfl dX5_free_12 ?_
  refine lv_iload_n hx hb dX5_free_15 rfl (lv_at hl 0 rfl) ?_
  obtain ⟨q16, h16, hf⟩ := bd_t hf
  refine cl_i (va_runV (As := [.int q7]) (rest := []) S (mX4_isBare l D cI cZ (aX5_X4_1 A) cw q7 H.size q16 h16) (cwV 1 hts gX5_free_X4_isBare rfl rfl rfl (by decide +kernel) ⟨Nat.le_of_ble_eq_true rfl, Nat.le_of_ble_eq_true rfl⟩) (mP_V (ci := 4) (cutX5_X4_1 _ _ _ _ _ _ _ _ _ _ st0) hP hD hK hG rfl (gX4_0 _ _ _ _)) rfl rfl hl.1 rfl (lv_room (Nat.le_of_ble_eq_true rfl)) dX5_free_16 ⟨Nat.le_refl _, Nat.le_refl _⟩) (cutX5_X4_1 _ _ _ _ _ _ _ _ _ _ _) hP hD hS hA (fun H locs hP hD hS => ?_)
  refine lv_if_eq (tgt := 32) hx hb dX5_free_19 (by decide) (fun c19 => ?_) (fun c19 => ?_)
  · have hf := if_t c19 hf
    refine lv_aload_n hx hb dX5_free_32 rfl (lv_at hl 1 rfl) ?_
    refine ld_f S iX5 hK hP 0 0 (.ref (A 4)) (gX5_0 _ _ _ _ _ _ _ _ _ _) rfl (by decide) k12 rfl rfl dX5_free_33 ?_
    refine ld_f S iX4 hK hP 4 0 (.ref (A 5)) (gX5_4 _ _ _ _ _ _ _ _ _ _) rfl (by decide) k99 rfl rfl dX5_free_36 ?_
    refine lv_iload_n hx hb dX5_free_39 rfl (lv_at hl 0 rfl) ?_
    obtain ⟨c40, hf⟩ := ck_t hf
    refine va_iald (f := cw 0) hx hb hK hP 5 0 (gX5_5 _ _ _ _ _ _ _ _ _ _) rfl (inb_in c40) dX5_free_40 ?_
    refine lv_istore (lv' := [(4, .int (cw 0 q7.toNatClampNeg)), (3, .int q7), (0, .ref (A 0)), (1, .int x1), (2, .int x2)]) hx hb dX5_free_41 hl (by decide) rfl (fun ls hl => ?_)
    refine lv_iload hx hb dX5_free_43 (lv_at hl 0 rfl) ?_
    refine lv_iconst (v := (-1)) hx hb dX5_free_45 (by decide) ?_
    refine lv_icmp_ne (tgt := 63) hx hb dX5_free_46 (by decide) (fun c46 => ?_) (fun c46 => ?_)
    · have hf := if_f c46 hf
      refine lv_aload_n hx hb dX5_free_63 rfl (lv_at hl 2 rfl) ?_
      refine lv_iload_n hx hb dX5_free_64 rfl (lv_at hl 1 rfl) ?_
      obtain ⟨q65, h65, hf⟩ := bd_t hf
      refine cl_v (va_runV (As := [.int q7]) (rest := []) S (mX5_dropUse l D cI cZ A cs cw ct cu cl cb cp q7 H.size q65 h65) (cwV 1 hts gX5_free_X5_dropUse rfl rfl rfl (by decide +kernel) ⟨Nat.le_of_ble_eq_true rfl, Nat.le_of_ble_eq_true rfl⟩) (mP_V (ci := 5) (Cut.self _ []) hP hD hK hG rfl (gX5_0 _ _ _ _ _ _ _ _ _ _)) rfl rfl hl.1 rfl (lv_room (Nat.le_of_ble_eq_true rfl)) dX5_free_65 ⟨Nat.le_refl _, Nat.le_refl _⟩) (Cut.self _ _) hP hD hS hA (fun H locs hP hD hS => ?_)
      refine lv_aload_n hx hb dX5_free_68 rfl (lv_at hl 2 rfl) ?_
      refine lv_iload hx hb dX5_free_69 (lv_at hl 0 rfl) ?_
      obtain ⟨q71, h71, hf⟩ := bd_t hf
      refine cl_v (va_runV (As := [.int (cw 0 q7.toNatClampNeg)]) (rest := []) S (mX5_dropUse l D cI cZ A cs cw (q65.1) cu cl (q65.2) cp (cw 0 q7.toNatClampNeg) H.size q71 h71) (cwV 1 hts gX5_free_X5_dropUse rfl rfl rfl (by decide +kernel) ⟨Nat.le_of_ble_eq_true rfl, Nat.le_of_ble_eq_true rfl⟩) (mP_V (ci := 5) (Cut.self _ []) hP hD hK hG rfl (gX5_0 _ _ _ _ _ _ _ _ _ _)) rfl rfl hl.1 rfl (lv_room (Nat.le_of_ble_eq_true rfl)) dX5_free_71 ⟨Nat.le_refl _, Nat.le_refl _⟩) (Cut.self _ _) hP hD hS hA (fun H locs hP hD hS => ?_)
      refine lv_aload_n hx hb dX5_free_74 rfl (lv_at hl 2 rfl) ?_
      refine ld_f S iX5 hK hP 0 0 (.ref (A 4)) (gX5_0 _ _ _ _ _ _ _ _ _ _) rfl (by decide) k12 rfl rfl dX5_free_75 ?_
      refine lv_iload_n hx hb dX5_free_78 rfl (lv_at hl 1 rfl) ?_
      refine lv_iload hx hb dX5_free_79 (lv_at hl 0 rfl) ?_
      obtain ⟨q81, h81, hf⟩ := bd_t hf
      refine cl_v (va_runV (As := [.int q7, .int (cw 0 q7.toNatClampNeg)]) (rest := []) S (mX4_takeWire l D cI cZ (aX5_X4_1 A) cw q7 (cw 0 q7.toNatClampNeg) H.size q81 h81) (cwV 2 hts gX5_free_X4_takeWire rfl rfl rfl (by decide +kernel) ⟨Nat.le_of_ble_eq_true rfl, Nat.le_of_ble_eq_true rfl⟩) (mP_V (ci := 4) (cutX5_X4_1 _ _ _ _ _ _ _ _ _ _ st0) hP hD hK hG rfl (gX4_0 _ _ _ _)) rfl rfl hl.1 rfl (lv_room (Nat.le_of_ble_eq_true rfl)) dX5_free_81 ⟨Nat.le_refl _, Nat.le_refl _⟩) (cutX5_X4_1 _ _ _ _ _ _ _ _ _ _ _) hP hD hS hA (fun H locs hP hD hS => ?_)
      refine lv_iconst (v := (-1)) hx hb dX5_free_84 (by decide) ?_
      exact hR _ ls H locs _ _ (congrArg (fun q => q.1) (Sum.inl.inj (Option.some.inj hf))) (congrArg (fun q => (wX5 cI cZ A cs (q.2.1) (q.2.2.1) cu cl (q.2.2.2) cp)) (Sum.inl.inj (Option.some.inj hf))) rfl dX5_free_85 hP hD hS
    · have hf := if_t c46 hf
      refine lv_aload_n hx hb dX5_free_49 rfl (lv_at hl 2 rfl) ?_
      refine lv_iload_n hx hb dX5_free_50 rfl (lv_at hl 1 rfl) ?_
      obtain ⟨q51, h51, hf⟩ := bd_t hf
      refine cl_v (va_runV (As := [.int q7]) (rest := []) S (mX5_dropUse l D cI cZ A cs cw ct cu cl cb cp q7 H.size q51 h51) (cwV 1 hts gX5_free_X5_dropUse rfl rfl rfl (by decide +kernel) ⟨Nat.le_of_ble_eq_true rfl, Nat.le_of_ble_eq_true rfl⟩) (mP_V (ci := 5) (Cut.self _ []) hP hD hK hG rfl (gX5_0 _ _ _ _ _ _ _ _ _ _)) rfl rfl hl.1 rfl (lv_room (Nat.le_of_ble_eq_true rfl)) dX5_free_51 ⟨Nat.le_refl _, Nat.le_refl _⟩) (Cut.self _ _) hP hD hS hA (fun H locs hP hD hS => ?_)
      refine lv_aload_n hx hb dX5_free_54 rfl (lv_at hl 2 rfl) ?_
      refine ld_f S iX5 hK hP 0 0 (.ref (A 4)) (gX5_0 _ _ _ _ _ _ _ _ _ _) rfl (by decide) k12 rfl rfl dX5_free_55 ?_
      refine lv_iload_n hx hb dX5_free_58 rfl (lv_at hl 1 rfl) ?_
      obtain ⟨q59, h59, hf⟩ := bd_t hf
      refine cl_i (va_runV (As := [.int q7]) (rest := []) S (mX4_takeHouse l D cI cZ (aX5_X4_1 A) cw q7 H.size q59 h59) (cwV 1 hts gX5_free_X4_takeHouse rfl rfl rfl (by decide +kernel) ⟨Nat.le_of_ble_eq_true rfl, Nat.le_of_ble_eq_true rfl⟩) (mP_V (ci := 4) (cutX5_X4_1 _ _ _ _ _ _ _ _ _ _ st0) hP hD hK hG rfl (gX4_0 _ _ _ _)) rfl rfl hl.1 rfl (lv_room (Nat.le_of_ble_eq_true rfl)) dX5_free_59 ⟨Nat.le_refl _, Nat.le_refl _⟩) (cutX5_X4_1 _ _ _ _ _ _ _ _ _ _ _) hP hD hS hA (fun H locs hP hD hS => ?_)
      exact hR _ ls H locs _ _ (congrArg (fun q => q.1) (Sum.inl.inj (Option.some.inj hf))) (congrArg (fun q => (wX5 cI cZ A cs (q.2.1) (q.2.2.1) cu cl (q.2.2.2) cp)) (Sum.inl.inj (Option.some.inj hf))) rfl dX5_free_62 hP hD hS
  · have hf := if_f c19 hf
    cases hf
set_option maxHeartbeats 4000000 in
set_option maxRecDepth 100000 in
theorem mX5_needHouse (l : Launch) (D : va_G) (cI cZ : ClassId)  (x0 : Int32) (sz : Nat) (res : Unit) (hf : fX5_needHouse x0 = some (.inl res)) : Met l yX5_needHouse wsX5_needHouse ({ frames := 6, cells := 0, slots := 0, locals := 96 }) (mP D (tysX cI cZ) [.int x0] [] sz) (mQv D [] [] sz) 0 0 (va_A [] sz) := by
  refine mkM_v (cc := cX5_needHouse) (maxL := 1) (own := RX5) (by decide +kernel) rfl rfl (Nat.le_of_ble_eq_true rfl) ?_
  intro p e s m args below meth c A0 Q S hK hG hA hR
  obtain ⟨hx, hb, hml, hown, hts⟩ := id S
  intro H locs hP hD hS ls hl
  have hl : lv_has ls 1 [(0, .int x0)] := hl
  unfold fX5_needHouse at hf
  refine lv_iload_n hx hb dX5_needHouse_0 rfl (lv_at hl 0 rfl) ?_
  refine lv_if_lt (tgt := 10) hx hb dX5_needHouse_1 (by decide) (fun c1 => ?_) (fun c1 => ?_)
  · have hf := if_t c1 hf
    cases hf
  · have hf := if_f c1 hf
    refine lv_iload_n hx hb dX5_needHouse_4 rfl (lv_at hl 0 rfl) ?_
    refine lv_bipush (v := 10) hx hb dX5_needHouse_5 (by decide) ?_
    refine lv_icmp_lt (tgt := 21) hx hb dX5_needHouse_7 (by decide) (fun c7 => ?_) (fun c7 => ?_)
    · have hf := if_t c7 hf
      exact hR _ ls H locs _ rfl dX5_needHouse_21 hP hD hS
    · have hf := if_f c7 hf
      cases hf
set_option maxHeartbeats 4000000 in
set_option maxRecDepth 100000 in
theorem mX5_house (l : Launch) (D : va_G) (cI cZ : ClassId) (A : Nat → Nat)  (cs : St) (cw : St) (ct : St) (cu : St) (cl : St) (cb : St) (cp : St) (x1 : Int32) (x2 : Int32) (x3 : Int32) (sz : Nat) (res : Int32 × St × St) (hf : fX5_house cw ct x1 x2 x3 = some (.inl res)) : Met l yX5_house wsX5_house ({ frames := 8, cells := 0, slots := 0, locals := 137 }) (mP D (tysX cI cZ) [.ref (A 0), .int x1, .int x2, .int x3] (wX5 cI cZ A cs cw ct cu cl cb cp) sz) (mQi D res.1 (wX5 cI cZ A cs cw ct cu cl cb cp) (wX5 cI cZ A cs (res.2.1) (res.2.2) cu cl cb cp) sz) 0 0 (va_A (wX5 cI cZ A cs cw ct cu cl cb cp) sz) := by
  refine mkM_i (cc := cX5_house) (maxL := 5) (own := RX5) (by decide +kernel) rfl rfl (Nat.le_of_ble_eq_true rfl) ?_
  intro p e s m args below meth c A0 Q S hK hG hA hR
  obtain ⟨hx, hb, hml, hown, hts⟩ := id S
  have k12 := hts (.fieldLink RX5 12 "SwitchFloor" "wiring" "LSwitchFloor$Wiring;") (by decide +kernel)
  have iX5 : ∀ w ∈ wsX50, w ∈ wsX5_house := by decide +kernel
  have k116 := hts (.fieldLink RX5 116 "SwitchFloor$Wiring" "spotOfHouse" "[I") (by decide +kernel)
  have iX4 : ∀ w ∈ wsX40, w ∈ wsX5_house := by decide +kernel
  have k21 := hts (.fieldLink RX5 21 "SwitchFloor" "tree" "LSwitchFloor$Tree;") (by decide +kernel)
  have k127 := hts (.fieldLink RX5 127 "SwitchFloor$Wiring" "houses" "I") (by decide +kernel)
  intro H locs hP hD hS ls hl
  have hl : lv_has ls 5 [(0, .ref (A 0)), (1, .int x1), (2, .int x2), (3, .int x3)] := hl
  unfold fX5_house at hf
  refine lv_iload_n hx hb dX5_house_0 rfl (lv_at hl 1 rfl) ?_
  refine lv_iload_n hx hb dX5_house_1 rfl (lv_at hl 2 rfl) ?_
  obtain ⟨q2, h2, hf⟩ := bx_l hf
  refine cl_v (va_runS (As := [.int x1, .int x2]) (rest := []) S (mX5_needPort l D cI cZ x1 x2 H.size q2 h2) (va_cwS 2 hts gX5_house_X5_needPort rfl rfl rfl (by decide +kernel) ⟨Nat.le_of_ble_eq_true rfl, Nat.le_of_ble_eq_true rfl⟩) (mP_S (Cut.nil _) hP hD hK hG) rfl rfl hl.1 rfl (lv_room (Nat.le_of_ble_eq_true rfl)) dX5_house_2 ⟨Nat.le_refl _, Nat.le_refl _⟩) (Cut.nil _) hP hD hS hA (fun H locs hP hD hS => ?_)
  refine lv_iload_n hx hb dX5_house_5 rfl (lv_at hl 3 rfl) ?_
  obtain ⟨q6, h6, hf⟩ := bx_l hf
  refine cl_v (va_runS (As := [.int x3]) (rest := []) S (mX5_needHouse l D cI cZ x3 H.size q6 h6) (va_cwS 1 hts gX5_house_X5_needHouse rfl rfl rfl (by decide +kernel) ⟨Nat.le_of_ble_eq_true rfl, Nat.le_of_ble_eq_true rfl⟩) (mP_S (Cut.nil _) hP hD hK hG) rfl rfl hl.1 rfl (lv_room (Nat.le_of_ble_eq_true rfl)) dX5_house_6 ⟨Nat.le_refl _, Nat.le_refl _⟩) (Cut.nil _) hP hD hS hA (fun H locs hP hD hS => ?_)
  refine lv_iload_n hx hb dX5_house_9 rfl (lv_at hl 1 rfl) ?_
  refine lv_iload_n hx hb dX5_house_10 rfl (lv_at hl 2 rfl) ?_
  obtain ⟨q11, h11, hf⟩ := bd_t hf
  refine cl_i (va_runS (As := [.int x1, .int x2]) (rest := []) S (mX5_spotOf l D cI cZ x1 x2 H.size q11 h11) (va_cwS 2 hts gX5_house_X5_spotOf rfl rfl rfl (by decide +kernel) ⟨Nat.le_of_ble_eq_true rfl, Nat.le_of_ble_eq_true rfl⟩) (mP_S (Cut.nil _) hP hD hK hG) rfl rfl hl.1 rfl (lv_room (Nat.le_of_ble_eq_true rfl)) dX5_house_11 ⟨Nat.le_refl _, Nat.le_refl _⟩) (Cut.nil _) hP hD hS hA (fun H locs hP hD hS => ?_)
  refine lv_istore (lv' := [(4, .int q11), (0, .ref (A 0)), (1, .int x1), (2, .int x2), (3, .int x3)]) hx hb dX5_house_14 hl (by decide) rfl (fun ls hl => ?_)
  refine lv_aload_n hx hb dX5_house_16 rfl (lv_at hl 1 rfl) ?_
  refine ld_f S iX5 hK hP 0 0 (.ref (A 4)) (gX5_0 _ _ _ _ _ _ _ _ _ _) rfl (by decide) k12 rfl rfl dX5_house_17 ?_
  refine lv_iload hx hb dX5_house_20 (lv_at hl 0 rfl) ?_
  obtain ⟨q22, h22, hf⟩ := bd_t hf
  refine cl_i (va_runV (As := [.int q11]) (rest := []) S (mX4_isBare l D cI cZ (aX5_X4_1 A) cw q11 H.size q22 h22) (cwV 1 hts gX5_house_X4_isBare rfl rfl rfl (by decide +kernel) ⟨Nat.le_of_ble_eq_true rfl, Nat.le_of_ble_eq_true rfl⟩) (mP_V (ci := 4) (cutX5_X4_1 _ _ _ _ _ _ _ _ _ _ st0) hP hD hK hG rfl (gX4_0 _ _ _ _)) rfl rfl hl.1 rfl (lv_room (Nat.le_of_ble_eq_true rfl)) dX5_house_22 ⟨Nat.le_refl _, Nat.le_refl _⟩) (cutX5_X4_1 _ _ _ _ _ _ _ _ _ _ _) hP hD hS hA (fun H locs hP hD hS => ?_)
  refine lv_if_eq (tgt := 41) hx hb dX5_house_25 (by decide) (fun c25 => ?_) (fun c25 => ?_)
  · have hf := if_t c25 hf
    cases hf
  · have hf := if_f c25 hf
    refine lv_aload_n hx hb dX5_house_28 rfl (lv_at hl 1 rfl) ?_
    refine ld_f S iX5 hK hP 0 0 (.ref (A 4)) (gX5_0 _ _ _ _ _ _ _ _ _ _) rfl (by decide) k12 rfl rfl dX5_house_29 ?_
    refine ld_f S iX4 hK hP 4 4 (.ref (A 9)) (gX5_4 _ _ _ _ _ _ _ _ _ _) rfl (by decide) k116 rfl rfl dX5_house_32 ?_
    refine lv_iload_n hx hb dX5_house_35 rfl (lv_at hl 4 rfl) ?_
    obtain ⟨c36, hf⟩ := ck_t hf
    refine va_iald (f := cw 4) hx hb hK hP 9 0 (gX5_9 _ _ _ _ _ _ _ _ _ _) rfl (inb_in c36) dX5_house_36 ?_
    refine lv_iconst (v := (-1)) hx hb dX5_house_37 (by decide) ?_
    refine lv_icmp_eq (tgt := 51) hx hb dX5_house_38 (by decide) (fun c38 => ?_) (fun c38 => ?_)
    · have hf := if_t c38 hf
      refine lv_aload_n hx hb dX5_house_51 rfl (lv_at hl 1 rfl) ?_
      refine ld_f S iX5 hK hP 0 0 (.ref (A 4)) (gX5_0 _ _ _ _ _ _ _ _ _ _) rfl (by decide) k12 rfl rfl dX5_house_52 ?_
      refine lv_iload hx hb dX5_house_55 (lv_at hl 0 rfl) ?_
      refine lv_iload_n hx hb dX5_house_57 rfl (lv_at hl 4 rfl) ?_
      obtain ⟨q58, h58, hf⟩ := bd_t hf
      refine cl_v (va_runV (As := [.int q11, .int x3]) (rest := []) S (mX4_putHouse l D cI cZ (aX5_X4_1 A) cw q11 x3 H.size q58 h58) (cwV 2 hts gX5_house_X4_putHouse rfl rfl rfl (by decide +kernel) ⟨Nat.le_of_ble_eq_true rfl, Nat.le_of_ble_eq_true rfl⟩) (mP_V (ci := 4) (cutX5_X4_1 _ _ _ _ _ _ _ _ _ _ st0) hP hD hK hG rfl (gX4_0 _ _ _ _)) rfl rfl hl.1 rfl (lv_room (Nat.le_of_ble_eq_true rfl)) dX5_house_58 ⟨Nat.le_refl _, Nat.le_refl _⟩) (cutX5_X4_1 _ _ _ _ _ _ _ _ _ _ _) hP hD hS hA (fun H locs hP hD hS => ?_)
      refine lv_aload_n hx hb dX5_house_61 rfl (lv_at hl 1 rfl) ?_
      refine ld_f S iX5 hK hP 0 1 (.ref (A 11)) (gX5_0 _ _ _ _ _ _ _ _ _ _) rfl (by decide) k21 rfl rfl dX5_house_62 ?_
      refine lv_iload hx hb dX5_house_65 (lv_at hl 0 rfl) ?_
      obtain ⟨q67, h67, hf⟩ := bd_t hf
      refine cl_v (va_runV (As := [.int q11]) (rest := []) S (mX3_openForHouse l D cI cZ (aX5_X3_2_1 A) ct q58 q11 H.size q67 h67) (cwV 1 hts gX5_house_X3_openForHouse rfl rfl rfl (by decide +kernel) ⟨Nat.le_of_ble_eq_true rfl, Nat.le_of_ble_eq_true rfl⟩) (mP_V (ci := 3) (cutX5_X3_2_1 _ _ _ _ _ _ _ _ _ _ st0 st0) hP hD hK hG rfl (gX3_0 _ _ _ _ _)) rfl rfl hl.1 rfl (lv_room (Nat.le_of_ble_eq_true rfl)) dX5_house_67 ⟨Nat.le_refl _, Nat.le_refl _⟩) (cutX5_X3_2_1 _ _ _ _ _ _ _ _ _ _ _ _) hP hD hS hA (fun H locs hP hD hS => ?_)
      refine lv_aload_n hx hb dX5_house_70 rfl (lv_at hl 1 rfl) ?_
      refine ld_f S iX5 hK hP 0 0 (.ref (A 4)) (gX5_0 _ _ _ _ _ _ _ _ _ _) rfl (by decide) k12 rfl rfl dX5_house_71 ?_
      refine ld_f S iX4 hK hP 4 7 (.int (q58 7 0)) (gX5_4 _ _ _ _ _ _ _ _ _ _) rfl (by decide) k127 rfl rfl dX5_house_74 ?_
      exact hR _ ls H locs _ _ (congrArg (fun q => q.1) (Sum.inl.inj (Option.some.inj hf))) (congrArg (fun q => (wX5 cI cZ A cs (q.2.1) (q.2.2) cu cl cb cp)) (Sum.inl.inj (Option.some.inj hf))) rfl dX5_house_77 hP hD hS
    · have hf := if_f c38 hf
      cases hf
set_option maxHeartbeats 4000000 in
set_option maxRecDepth 100000 in
theorem mX5_rank (l : Launch) (D : va_G) (cI cZ : ClassId) (A : Nat → Nat)  (cs : St) (cw : St) (ct : St) (cu : St) (cl : St) (cb : St) (cp : St) (x1 : Int32) (x2 : Int32) (sz : Nat) (res : Int32 × St) (hf : fX5_rank cw x1 x2 = some (.inl res)) : Met l yX5_rank wsX5_rank ({ frames := 7, cells := 0, slots := 0, locals := 118 }) (mP D (tysX cI cZ) [.ref (A 0), .int x1, .int x2] (wX5 cI cZ A cs cw ct cu cl cb cp) sz) (mQi D res.1 (wX5 cI cZ A cs cw ct cu cl cb cp) (wX5 cI cZ A cs (res.2) ct cu cl cb cp) sz) 0 0 (va_A (wX5 cI cZ A cs cw ct cu cl cb cp) sz) := by
  refine mkM_i (cc := cX5_rank) (maxL := 4) (own := RX5) (by decide +kernel) rfl rfl (Nat.le_of_ble_eq_true rfl) ?_
  intro p e s m args below meth c A0 Q S hK hG hA hR
  obtain ⟨hx, hb, hml, hown, hts⟩ := id S
  have k12 := hts (.fieldLink RX5 12 "SwitchFloor" "wiring" "LSwitchFloor$Wiring;") (by decide +kernel)
  have iX5 : ∀ w ∈ wsX50, w ∈ wsX5_rank := by decide +kernel
  have k133 := hts (.fieldLink RX5 133 "SwitchFloor$Wiring" "rank" "[I") (by decide +kernel)
  have iX4 : ∀ w ∈ wsX40, w ∈ wsX5_rank := by decide +kernel
  intro H locs hP hD hS ls hl
  have hl : lv_has ls 4 [(0, .ref (A 0)), (1, .int x1), (2, .int x2)] := hl
  unfold fX5_rank at hf
  refine lv_iload_n hx hb dX5_rank_0 rfl (lv_at hl 1 rfl) ?_
  obtain ⟨q1, h1, hf⟩ := bx_l hf
  refine cl_v (va_runS (As := [.int x1]) (rest := []) S (mX5_needSwitch l D cI cZ x1 H.size q1 h1) (va_cwS 1 hts gX5_rank_X5_needSwitch rfl rfl rfl (by decide +kernel) ⟨Nat.le_of_ble_eq_true rfl, Nat.le_of_ble_eq_true rfl⟩) (mP_S (Cut.nil _) hP hD hK hG) rfl rfl hl.1 rfl (lv_room (Nat.le_of_ble_eq_true rfl)) dX5_rank_1 ⟨Nat.le_refl _, Nat.le_refl _⟩) (Cut.nil _) hP hD hS hA (fun H locs hP hD hS => ?_)
  refine lv_iload_n hx hb dX5_rank_4 rfl (lv_at hl 2 rfl) ?_
  refine lv_iconst (v := 0) hx hb dX5_rank_5 (by decide) ?_
  refine lv_bipush (v := 15) hx hb dX5_rank_6 (by decide) ?_
  obtain ⟨q8, h8, hf⟩ := bx_l hf
  refine cl_v (va_runS (As := [.int x2, .int 0, .int 15]) (rest := []) S (mX5_needWithin l D cI cZ x2 0 15 H.size q8 h8) (va_cwS 3 hts gX5_rank_X5_needWithin rfl rfl rfl (by decide +kernel) ⟨Nat.le_of_ble_eq_true rfl, Nat.le_of_ble_eq_true rfl⟩) (mP_S (Cut.nil _) hP hD hK hG) rfl rfl hl.1 rfl (lv_room (Nat.le_of_ble_eq_true rfl)) dX5_rank_8 ⟨Nat.le_refl _, Nat.le_refl _⟩) (Cut.nil _) hP hD hS hA (fun H locs hP hD hS => ?_)
  refine lv_aload_n hx hb dX5_rank_11 rfl (lv_at hl 0 rfl) ?_
  refine ld_f S iX5 hK hP 0 0 (.ref (A 4)) (gX5_0 _ _ _ _ _ _ _ _ _ _) rfl (by decide) k12 rfl rfl dX5_rank_12 ?_
  refine ld_f S iX4 hK hP 4 5 (.ref (A 10)) (gX5_4 _ _ _ _ _ _ _ _ _ _) rfl (by decide) k133 rfl rfl dX5_rank_15 ?_
  refine lv_iload_n hx hb dX5_rank_18 rfl (lv_at hl 1 rfl) ?_
  obtain ⟨c19, hf⟩ := ck_t hf
  refine va_iald (f := cw 5) hx hb hK hP 10 0 (gX5_10 _ _ _ _ _ _ _ _ _ _) rfl (inb_in c19) dX5_rank_19 ?_
  refine lv_istore_n (lv' := [(3, .int (cw 5 x1.toNatClampNeg)), (0, .ref (A 0)), (1, .int x1), (2, .int x2)]) hx hb dX5_rank_20 rfl hl (by decide) rfl (fun ls hl => ?_)
  refine lv_aload_n hx hb dX5_rank_21 rfl (lv_at hl 1 rfl) ?_
  refine ld_f S iX5 hK hP 0 0 (.ref (A 4)) (gX5_0 _ _ _ _ _ _ _ _ _ _) rfl (by decide) k12 rfl rfl dX5_rank_22 ?_
  refine ld_f S iX4 hK hP 4 5 (.ref (A 10)) (gX5_4 _ _ _ _ _ _ _ _ _ _) rfl (by decide) k133 rfl rfl dX5_rank_25 ?_
  refine lv_iload_n hx hb dX5_rank_28 rfl (lv_at hl 2 rfl) ?_
  refine lv_iload_n hx hb dX5_rank_29 rfl (lv_at hl 3 rfl) ?_
  obtain ⟨c30, hf⟩ := ck_t hf
  refine st_i hx hb hK hP hD hS 10 0 (sX5_10 _ _ _ _ _ _ _ _ _ _ _ _) (gX5_10 _ _ _ _ _ _ _ _ _ _) rfl c30 dX5_rank_30 (fun H locs hP hD hS => ?_)
  refine lv_iload_n hx hb dX5_rank_31 rfl (lv_at hl 0 rfl) ?_
  exact hR _ ls H locs _ _ (congrArg (fun q => q.1) (Sum.inl.inj (Option.some.inj hf))) (congrArg (fun q => (wX5 cI cZ A cs (q.2) ct cu cl cb cp)) (Sum.inl.inj (Option.some.inj hf))) rfl dX5_rank_32 hP hD hS
set_option maxHeartbeats 4000000 in
set_option maxRecDepth 100000 in
theorem mX5_shutUntil (l : Launch) (D : va_G) (cI cZ : ClassId) (A : Nat → Nat)  (cs : St) (cw : St) (ct : St) (cu : St) (cl : St) (cb : St) (cp : St) (x1 : Int32) (x2 : Int32) (sz : Nat) (res : St × St) (hf : fX5_shutUntil ct cb x1 x2 = some res) : Met l yX5_shutUntil wsX5_shutUntil ({ frames := 2, cells := 0, slots := 0, locals := 44 }) (mP D (tysX cI cZ) [.ref (A 0), .int x1, .int x2] (wX5 cI cZ A cs cw ct cu cl cb cp) sz) (mQv D (wX5 cI cZ A cs cw ct cu cl cb cp) (wX5 cI cZ A cs cw (res.1) cu cl (res.2) cp) sz) 0 0 (va_A (wX5 cI cZ A cs cw ct cu cl cb cp) sz) := by
  refine mkM_v (cc := cX5_shutUntil) (maxL := 3) (own := RX5) (by decide +kernel) rfl rfl (Nat.le_of_ble_eq_true rfl) ?_
  intro p e s m args below meth c A0 Q S hK hG hA hR
  obtain ⟨hx, hb, hml, hown, hts⟩ := id S
  have k21 := hts (.fieldLink RX5 21 "SwitchFloor" "tree" "LSwitchFloor$Tree;") (by decide +kernel)
  have iX5 : ∀ w ∈ wsX50, w ∈ wsX5_shutUntil := by decide +kernel
  have k38 := hts (.fieldLink RX5 38 "SwitchFloor" "tables" "LSwitchFloor$Tables;") (by decide +kernel)
  intro H locs hP hD hS ls hl
  have hl : lv_has ls 3 [(0, .ref (A 0)), (1, .int x1), (2, .int x2)] := hl
  unfold fX5_shutUntil at hf
  refine lv_aload_n hx hb dX5_shutUntil_0 rfl (lv_at hl 0 rfl) ?_
  refine ld_f S iX5 hK hP 0 1 (.ref (A 11)) (gX5_0 _ _ _ _ _ _ _ _ _ _) rfl (by decide) k21 rfl rfl dX5_shutUntil_1 ?_
  refine lv_iload_n hx hb dX5_shutUntil_4 rfl (lv_at hl 1 rfl) ?_
  refine lv_iload_n hx hb dX5_shutUntil_5 rfl (lv_at hl 2 rfl) ?_
  obtain ⟨q6, h6, hf⟩ := bd_t hf
  refine cl_v (va_runV (As := [.int x1, .int x2]) (rest := []) S (mX3_beginShut l D cI cZ (aX5_X3_2_1 A) ct cw x1 x2 H.size q6 h6) (cwV 2 hts gX5_shutUntil_X3_beginShut rfl rfl rfl (by decide +kernel) ⟨Nat.le_of_ble_eq_true rfl, Nat.le_of_ble_eq_true rfl⟩) (mP_V (ci := 3) (cutX5_X3_2_1 _ _ _ _ _ _ _ _ _ _ st0 st0) hP hD hK hG rfl (gX3_0 _ _ _ _ _)) rfl rfl hl.1 rfl (lv_room (Nat.le_of_ble_eq_true rfl)) dX5_shutUntil_6 ⟨Nat.le_refl _, Nat.le_refl _⟩) (cutX5_X3_2_1 _ _ _ _ _ _ _ _ _ _ _ _) hP hD hS hA (fun H locs hP hD hS => ?_)
  refine lv_aload_n hx hb dX5_shutUntil_9 rfl (lv_at hl 0 rfl) ?_
  refine ld_f S iX5 hK hP 0 4 (.ref (A 44)) (gX5_0 _ _ _ _ _ _ _ _ _ _) rfl (by decide) k38 rfl rfl dX5_shutUntil_10 ?_
  refine lv_iload_n hx hb dX5_shutUntil_13 rfl (lv_at hl 1 rfl) ?_
  obtain ⟨q14, h14, hf⟩ := bd_t hf
  refine cl_v (va_runV (As := [.int x1]) (rest := []) S (mX2_forgetPort l D cI cZ (aX5_X2_5 A) cb x1 H.size q14 h14) (cwV 1 hts gX5_shutUntil_X2_forgetPort rfl rfl rfl (by decide +kernel) ⟨Nat.le_of_ble_eq_true rfl, Nat.le_of_ble_eq_true rfl⟩) (mP_V (ci := 2) (cutX5_X2_5 _ _ _ _ _ _ _ _ _ _ st0) hP hD hK hG rfl (gX2_0 _ _ _ _)) rfl rfl hl.1 rfl (lv_room (Nat.le_of_ble_eq_true rfl)) dX5_shutUntil_14 ⟨Nat.le_refl _, Nat.le_refl _⟩) (cutX5_X2_5 _ _ _ _ _ _ _ _ _ _ _) hP hD hS hA (fun H locs hP hD hS => ?_)
  exact hR _ ls H locs _ (congrArg (fun q => (wX5 cI cZ A cs cw (q.1) cu cl (q.2) cp)) (Option.some.inj hf)) dX5_shutUntil_17 hP hD hS
set_option maxHeartbeats 4000000 in
set_option maxRecDepth 100000 in
theorem mX5_shut (l : Launch) (D : va_G) (cI cZ : ClassId) (A : Nat → Nat)  (cs : St) (cw : St) (ct : St) (cu : St) (cl : St) (cb : St) (cp : St) (x1 : Int32) (x2 : Int32) (sz : Nat) (res : Int32 × St × St) (hf : fX5_shut cw ct cb x1 x2 = some (.inl res)) : Met l yX5_shut wsX5_shut ({ frames := 8, cells := 0, slots := 0, locals := 137 }) (mP D (tysX cI cZ) [.ref (A 0), .int x1, .int x2] (wX5 cI cZ A cs cw ct cu cl cb cp) sz) (mQi D res.1 (wX5 cI cZ A cs cw ct cu cl cb cp) (wX5 cI cZ A cs cw (res.2.1) cu cl (res.2.2) cp) sz) 0 0 (va_A (wX5 cI cZ A cs cw ct cu cl cb cp) sz) := by
  refine mkM_i (cc := cX5_shut) (maxL := 4) (own := RX5) (by decide +kernel) rfl rfl (Nat.le_of_ble_eq_true rfl) ?_
  intro p e s m args below meth c A0 Q S hK hG hA hR
  obtain ⟨hx, hb, hml, hown, hts⟩ := id S
  have k21 := hts (.fieldLink RX5 21 "SwitchFloor" "tree" "LSwitchFloor$Tree;") (by decide +kernel)
  have iX5 : ∀ w ∈ wsX50, w ∈ wsX5_shut := by decide +kernel
  intro H locs hP hD hS ls hl
  have hl : lv_has ls 4 [(0, .ref (A 0)), (1, .int x1), (2, .int x2)] := hl
  unfold fX5_shut at hf
  refine lv_iload_n hx hb dX5_shut_0 rfl (lv_at hl 1 rfl) ?_
  refine lv_iload_n hx hb dX5_shut_1 rfl (lv_at hl 2 rfl) ?_
  obtain ⟨q2, h2, hf⟩ := bx_l hf
  refine cl_v (va_runS (As := [.int x1, .int x2]) (rest := []) S (mX5_needPort l D cI cZ x1 x2 H.size q2 h2) (va_cwS 2 hts gX5_shut_X5_needPort rfl rfl rfl (by decide +kernel) ⟨Nat.le_of_ble_eq_true rfl, Nat.le_of_ble_eq_true rfl⟩) (mP_S (Cut.nil _) hP hD hK hG) rfl rfl hl.1 rfl (lv_room (Nat.le_of_ble_eq_true rfl)) dX5_shut_2 ⟨Nat.le_refl _, Nat.le_refl _⟩) (Cut.nil _) hP hD hS hA (fun H locs hP hD hS => ?_)
  refine lv_iload_n hx hb dX5_shut_5 rfl (lv_at hl 1 rfl) ?_
  refine lv_iload_n hx hb dX5_shut_6 rfl (lv_at hl 2 rfl) ?_
  obtain ⟨q7, h7, hf⟩ := bd_t hf
  refine cl_i (va_runS (As := [.int x1, .int x2]) (rest := []) S (mX5_spotOf l D cI cZ x1 x2 H.size q7 h7) (va_cwS 2 hts gX5_shut_X5_spotOf rfl rfl rfl (by decide +kernel) ⟨Nat.le_of_ble_eq_true rfl, Nat.le_of_ble_eq_true rfl⟩) (mP_S (Cut.nil _) hP hD hK hG) rfl rfl hl.1 rfl (lv_room (Nat.le_of_ble_eq_true rfl)) dX5_shut_7 ⟨Nat.le_refl _, Nat.le_refl _⟩) (Cut.nil _) hP hD hS hA (fun H locs hP hD hS => ?_)
  refine lv_istore_n (lv' := [(3, .int q7), (0, .ref (A 0)), (1, .int x1), (2, .int x2)]) hx hb dX5_shut_10 rfl hl (by decide) rfl (fun ls hl => ?_)
  refine lv_aload_n hx hb dX5_shut_11 rfl (lv_at hl 1 rfl) ?_
  refine ld_f S iX5 hK hP 0 1 (.ref (A 11)) (gX5_0 _ _ _ _ _ _ _ _ _ _) rfl (by decide) k21 rfl rfl dX5_shut_12 ?_
  refine lv_iload_n hx hb dX5_shut_15 rfl (lv_at hl 0 rfl) ?_
  obtain ⟨q16, h16, hf⟩ := bd_t hf
  refine cl_i (va_runV (As := [.int q7]) (rest := []) S (mX3_isShut l D cI cZ (aX5_X3_2_1 A) ct cw q7 H.size q16 h16) (cwV 1 hts gX5_shut_X3_isShut rfl rfl rfl (by decide +kernel) ⟨Nat.le_of_ble_eq_true rfl, Nat.le_of_ble_eq_true rfl⟩) (mP_V (ci := 3) (cutX5_X3_2_1 _ _ _ _ _ _ _ _ _ _ st0 st0) hP hD hK hG rfl (gX3_0 _ _ _ _ _)) rfl rfl hl.1 rfl (lv_room (Nat.le_of_ble_eq_true rfl)) dX5_shut_16 ⟨Nat.le_refl _, Nat.le_refl _⟩) (cutX5_X3_2_1 _ _ _ _ _ _ _ _ _ _ _ _) hP hD hS hA (fun H locs hP hD hS => ?_)
  refine lv_if_eq (tgt := 32) hx hb dX5_shut_19 (by decide) (fun c19 => ?_) (fun c19 => ?_)
  · have hf := if_t c19 hf
    refine lv_aload_n hx hb dX5_shut_32 rfl (lv_at hl 1 rfl) ?_
    refine lv_iload_n hx hb dX5_shut_33 rfl (lv_at hl 0 rfl) ?_
    refine lv_iconst (v := (-1)) hx hb dX5_shut_34 (by decide) ?_
    obtain ⟨q35, h35, hf⟩ := bd_t hf
    refine cl_v (va_runV (As := [.int q7, .int (-1)]) (rest := []) S (mX5_shutUntil l D cI cZ A cs cw ct cu cl cb cp q7 (-1) H.size q35 h35) (cwV 2 hts gX5_shut_X5_shutUntil rfl rfl rfl (by decide +kernel) ⟨Nat.le_of_ble_eq_true rfl, Nat.le_of_ble_eq_true rfl⟩) (mP_V (ci := 5) (Cut.self _ []) hP hD hK hG rfl (gX5_0 _ _ _ _ _ _ _ _ _ _)) rfl rfl hl.1 rfl (lv_room (Nat.le_of_ble_eq_true rfl)) dX5_shut_35 ⟨Nat.le_refl _, Nat.le_refl _⟩) (Cut.self _ _) hP hD hS hA (fun H locs hP hD hS => ?_)
    refine lv_iconst (v := 1) hx hb dX5_shut_38 (by decide) ?_
    exact hR _ ls H locs _ _ (congrArg (fun q => q.1) (Sum.inl.inj (Option.some.inj hf))) (congrArg (fun q => (wX5 cI cZ A cs cw (q.2.1) cu cl (q.2.2) cp)) (Sum.inl.inj (Option.some.inj hf))) (by decide) dX5_shut_39 hP hD hS
  · have hf := if_f c19 hf
    refine lv_aload_n hx hb dX5_shut_22 rfl (lv_at hl 1 rfl) ?_
    refine ld_f S iX5 hK hP 0 1 (.ref (A 11)) (gX5_0 _ _ _ _ _ _ _ _ _ _) rfl (by decide) k21 rfl rfl dX5_shut_23 ?_
    refine lv_iload_n hx hb dX5_shut_26 rfl (lv_at hl 0 rfl) ?_
    obtain ⟨q27, h27, hf⟩ := bd_t hf
    refine cl_v (va_runV (As := [.int q7]) (rest := []) S (mX3_endShut l D cI cZ (aX5_X3_2_1 A) ct cw q7 H.size q27 h27) (cwV 1 hts gX5_shut_X3_endShut rfl rfl rfl (by decide +kernel) ⟨Nat.le_of_ble_eq_true rfl, Nat.le_of_ble_eq_true rfl⟩) (mP_V (ci := 3) (cutX5_X3_2_1 _ _ _ _ _ _ _ _ _ _ st0 st0) hP hD hK hG rfl (gX3_0 _ _ _ _ _)) rfl rfl hl.1 rfl (lv_room (Nat.le_of_ble_eq_true rfl)) dX5_shut_27 ⟨Nat.le_refl _, Nat.le_refl _⟩) (cutX5_X3_2_1 _ _ _ _ _ _ _ _ _ _ _ _) hP hD hS hA (fun H locs hP hD hS => ?_)
    refine lv_iconst (v := 0) hx hb dX5_shut_30 (by decide) ?_
    exact hR _ ls H locs _ _ (congrArg (fun q => q.1) (Sum.inl.inj (Option.some.inj hf))) (congrArg (fun q => (wX5 cI cZ A cs cw (q.2.1) cu cl (q.2.2) cp)) (Sum.inl.inj (Option.some.inj hf))) (by decide) dX5_shut_31 hP hD hS
set_option maxHeartbeats 4000000 in
set_option maxRecDepth 100000 in
theorem mX5_guard (l : Launch) (D : va_G) (cI cZ : ClassId) (A : Nat → Nat)  (cs : St) (cw : St) (ct : St) (cu : St) (cl : St) (cb : St) (cp : St) (x1 : Int32) (x2 : Int32) (x3 : Int32) (sz : Nat) (res : Int32 × St) (hf : fX5_guard cw x1 x2 x3 = some (.inl res)) : Met l yX5_guard wsX5_guard ({ frames := 8, cells := 0, slots := 0, locals := 137 }) (mP D (tysX cI cZ) [.ref (A 0), .int x1, .int x2, .int x3] (wX5 cI cZ A cs cw ct cu cl cb cp) sz) (mQi D res.1 (wX5 cI cZ A cs cw ct cu cl cb cp) (wX5 cI cZ A cs (res.2) ct cu cl cb cp) sz) 0 0 (va_A (wX5 cI cZ A cs cw ct cu cl cb cp) sz) := by
  refine mkM_i (cc := cX5_guard) (maxL := 6) (own := RX5) (by decide +kernel) rfl rfl (Nat.le_of_ble_eq_true rfl) ?_
  intro p e s m args below meth c A0 Q S hK hG hA hR
  obtain ⟨hx, hb, hml, hown, hts⟩ := id S
  have k12 := hts (.fieldLink RX5 12 "SwitchFloor" "wiring" "LSwitchFloor$Wiring;") (by decide +kernel)
  have iX5 : ∀ w ∈ wsX50, w ∈ wsX5_guard := by decide +kernel
  have k145 := hts (.fieldLink RX5 145 "SwitchFloor$Wiring" "guard" "[I") (by decide +kernel)
  have iX4 : ∀ w ∈ wsX40, w ∈ wsX5_guard := by decide +kernel
  intro H locs hP hD hS ls hl
  have hl : lv_has ls 6 [(0, .ref (A 0)), (1, .int x1), (2, .int x2), (3, .int x3)] := hl
  unfold fX5_guard at hf
  refine lv_iload_n hx hb dX5_guard_0 rfl (lv_at hl 1 rfl) ?_
  refine lv_iload_n hx hb dX5_guard_1 rfl (lv_at hl 2 rfl) ?_
  obtain ⟨q2, h2, hf⟩ := bx_l hf
  refine cl_v (va_runS (As := [.int x1, .int x2]) (rest := []) S (mX5_needPort l D cI cZ x1 x2 H.size q2 h2) (va_cwS 2 hts gX5_guard_X5_needPort rfl rfl rfl (by decide +kernel) ⟨Nat.le_of_ble_eq_true rfl, Nat.le_of_ble_eq_true rfl⟩) (mP_S (Cut.nil _) hP hD hK hG) rfl rfl hl.1 rfl (lv_room (Nat.le_of_ble_eq_true rfl)) dX5_guard_2 ⟨Nat.le_refl _, Nat.le_refl _⟩) (Cut.nil _) hP hD hS hA (fun H locs hP hD hS => ?_)
  refine lv_iload_n hx hb dX5_guard_5 rfl (lv_at hl 3 rfl) ?_
  refine lv_iconst (v := 0) hx hb dX5_guard_6 (by decide) ?_
  refine lv_iconst (v := 2) hx hb dX5_guard_7 (by decide) ?_
  obtain ⟨q8, h8, hf⟩ := bx_l hf
  refine cl_v (va_runS (As := [.int x3, .int 0, .int 2]) (rest := []) S (mX5_needWithin l D cI cZ x3 0 2 H.size q8 h8) (va_cwS 3 hts gX5_guard_X5_needWithin rfl rfl rfl (by decide +kernel) ⟨Nat.le_of_ble_eq_true rfl, Nat.le_of_ble_eq_true rfl⟩) (mP_S (Cut.nil _) hP hD hK hG) rfl rfl hl.1 rfl (lv_room (Nat.le_of_ble_eq_true rfl)) dX5_guard_8 ⟨Nat.le_refl _, Nat.le_refl _⟩) (Cut.nil _) hP hD hS hA (fun H locs hP hD hS => ?_)
  refine lv_iload_n hx hb dX5_guard_11 rfl (lv_at hl 1 rfl) ?_
  refine lv_iload_n hx hb dX5_guard_12 rfl (lv_at hl 2 rfl) ?_
  obtain ⟨q13, h13, hf⟩ := bd_t hf
  refine cl_i (va_runS (As := [.int x1, .int x2]) (rest := []) S (mX5_spotOf l D cI cZ x1 x2 H.size q13 h13) (va_cwS 2 hts gX5_guard_X5_spotOf rfl rfl rfl (by decide +kernel) ⟨Nat.le_of_ble_eq_true rfl, Nat.le_of_ble_eq_true rfl⟩) (mP_S (Cut.nil _) hP hD hK hG) rfl rfl hl.1 rfl (lv_room (Nat.le_of_ble_eq_true rfl)) dX5_guard_13 ⟨Nat.le_refl _, Nat.le_refl _⟩) (Cut.nil _) hP hD hS hA (fun H locs hP hD hS => ?_)
  refine lv_istore (lv' := [(4, .int q13), (0, .ref (A 0)), (1, .int x1), (2, .int x2), (3, .int x3)]) hx hb dX5_guard_16 hl (by decide) rfl (fun ls hl => ?_)
  refine lv_aload_n hx hb dX5_guard_18 rfl (lv_at hl 1 rfl) ?_
  refine ld_f S iX5 hK hP 0 0 (.ref (A 4)) (gX5_0 _ _ _ _ _ _ _ _ _ _) rfl (by decide) k12 rfl rfl dX5_guard_19 ?_
  refine ld_f S iX4 hK hP 4 3 (.ref (A 8)) (gX5_4 _ _ _ _ _ _ _ _ _ _) rfl (by decide) k145 rfl rfl dX5_guard_22 ?_
  refine lv_iload hx hb dX5_guard_25 (lv_at hl 0 rfl) ?_
  obtain ⟨c27, hf⟩ := ck_t hf
  refine va_iald (f := cw 3) hx hb hK hP 8 0 (gX5_8 _ _ _ _ _ _ _ _ _ _) rfl (inb_in c27) dX5_guard_27 ?_
  refine lv_istore (lv' := [(5, .int (cw 3 q13.toNatClampNeg)), (4, .int q13), (0, .ref (A 0)), (1, .int x1), (2, .int x2), (3, .int x3)]) hx hb dX5_guard_28 hl (by decide) rfl (fun ls hl => ?_)
  refine lv_aload_n hx hb dX5_guard_30 rfl (lv_at hl 2 rfl) ?_
  refine ld_f S iX5 hK hP 0 0 (.ref (A 4)) (gX5_0 _ _ _ _ _ _ _ _ _ _) rfl (by decide) k12 rfl rfl dX5_guard_31 ?_
  refine ld_f S iX4 hK hP 4 3 (.ref (A 8)) (gX5_4 _ _ _ _ _ _ _ _ _ _) rfl (by decide) k145 rfl rfl dX5_guard_34 ?_
  refine lv_iload hx hb dX5_guard_37 (lv_at hl 1 rfl) ?_
  refine lv_iload_n hx hb dX5_guard_39 rfl (lv_at hl 5 rfl) ?_
  obtain ⟨c40, hf⟩ := ck_t hf
  refine st_i hx hb hK hP hD hS 8 0 (sX5_8 _ _ _ _ _ _ _ _ _ _ _ _) (gX5_8 _ _ _ _ _ _ _ _ _ _) rfl c40 dX5_guard_40 (fun H locs hP hD hS => ?_)
  refine lv_iload hx hb dX5_guard_41 (lv_at hl 0 rfl) ?_
  exact hR _ ls H locs _ _ (congrArg (fun q => q.1) (Sum.inl.inj (Option.some.inj hf))) (congrArg (fun q => (wX5 cI cZ A cs (q.2) ct cu cl cb cp)) (Sum.inl.inj (Option.some.inj hf))) rfl dX5_guard_43 hP hD hS
set_option maxHeartbeats 4000000 in
set_option maxRecDepth 100000 in
theorem mX5_needLane (l : Launch) (D : va_G) (cI cZ : ClassId)  (x0 : Int32) (sz : Nat) (res : Unit) (hf : fX5_needLane x0 = some (.inl res)) : Met l yX5_needLane wsX5_needLane ({ frames := 6, cells := 0, slots := 0, locals := 96 }) (mP D (tysX cI cZ) [.int x0] [] sz) (mQv D [] [] sz) 0 0 (va_A [] sz) := by
  refine mkM_v (cc := cX5_needLane) (maxL := 1) (own := RX5) (by decide +kernel) rfl rfl (Nat.le_of_ble_eq_true rfl) ?_
  intro p e s m args below meth c A0 Q S hK hG hA hR
  obtain ⟨hx, hb, hml, hown, hts⟩ := id S
  intro H locs hP hD hS ls hl
  have hl : lv_has ls 1 [(0, .int x0)] := hl
  unfold fX5_needLane at hf
  refine lv_iload_n hx hb dX5_needLane_0 rfl (lv_at hl 0 rfl) ?_
  refine lv_iconst (v := 1) hx hb dX5_needLane_1 (by decide) ?_
  refine lv_icmp_lt (tgt := 10) hx hb dX5_needLane_2 (by decide) (fun c2 => ?_) (fun c2 => ?_)
  · have hf := if_t c2 hf
    cases hf
  · have hf := if_f c2 hf
    refine lv_iload_n hx hb dX5_needLane_5 rfl (lv_at hl 0 rfl) ?_
    refine lv_iconst (v := 3) hx hb dX5_needLane_6 (by decide) ?_
    refine lv_icmp_le (tgt := 21) hx hb dX5_needLane_7 (by decide) (fun c7 => ?_) (fun c7 => ?_)
    · have hf := if_t c7 hf
      exact hR _ ls H locs _ rfl dX5_needLane_21 hP hD hS
    · have hf := if_f c7 hf
      cases hf
set_option maxHeartbeats 4000000 in
set_option maxRecDepth 100000 in
theorem mX5_plain (l : Launch) (D : va_G) (cI cZ : ClassId) (A : Nat → Nat)  (cs : St) (cw : St) (ct : St) (cu : St) (cl : St) (cb : St) (cp : St) (x1 : Int32) (x2 : Int32) (x3 : Int32) (sz : Nat) (res : St) (hf : fX5_plain cl x1 x2 x3 = some (.inl res)) : Met l yX5_plain wsX5_plain ({ frames := 8, cells := 0, slots := 0, locals := 137 }) (mP D (tysX cI cZ) [.ref (A 0), .int x1, .int x2, .int x3] (wX5 cI cZ A cs cw ct cu cl cb cp) sz) (mQv D (wX5 cI cZ A cs cw ct cu cl cb cp) (wX5 cI cZ A cs cw ct cu res cb cp) sz) 0 0 (va_A (wX5 cI cZ A cs cw ct cu cl cb cp) sz) := by
  refine mkM_v (cc := cX5_plain) (maxL := 4) (own := RX5) (by decide +kernel) rfl rfl (Nat.le_of_ble_eq_true rfl) ?_
  intro p e s m args below meth c A0 Q S hK hG hA hR
  obtain ⟨hx, hb, hml, hown, hts⟩ := id S
  have k31 := hts (.fieldLink RX5 31 "SwitchFloor" "lanes" "LSwitchFloor$Lanes;") (by decide +kernel)
  have iX5 : ∀ w ∈ wsX50, w ∈ wsX5_plain := by decide +kernel
  intro H locs hP hD hS ls hl
  have hl : lv_has ls 4 [(0, .ref (A 0)), (1, .int x1), (2, .int x2), (3, .int x3)] := hl
  unfold fX5_plain at hf
  refine lv_iload_n hx hb dX5_plain_0 rfl (lv_at hl 1 rfl) ?_
  refine lv_iload_n hx hb dX5_plain_1 rfl (lv_at hl 2 rfl) ?_
  obtain ⟨q2, h2, hf⟩ := bx_l hf
  refine cl_v (va_runS (As := [.int x1, .int x2]) (rest := []) S (mX5_needPort l D cI cZ x1 x2 H.size q2 h2) (va_cwS 2 hts gX5_plain_X5_needPort rfl rfl rfl (by decide +kernel) ⟨Nat.le_of_ble_eq_true rfl, Nat.le_of_ble_eq_true rfl⟩) (mP_S (Cut.nil _) hP hD hK hG) rfl rfl hl.1 rfl (lv_room (Nat.le_of_ble_eq_true rfl)) dX5_plain_2 ⟨Nat.le_refl _, Nat.le_refl _⟩) (Cut.nil _) hP hD hS hA (fun H locs hP hD hS => ?_)
  refine lv_iload_n hx hb dX5_plain_5 rfl (lv_at hl 3 rfl) ?_
  obtain ⟨q6, h6, hf⟩ := bx_l hf
  refine cl_v (va_runS (As := [.int x3]) (rest := []) S (mX5_needLane l D cI cZ x3 H.size q6 h6) (va_cwS 1 hts gX5_plain_X5_needLane rfl rfl rfl (by decide +kernel) ⟨Nat.le_of_ble_eq_true rfl, Nat.le_of_ble_eq_true rfl⟩) (mP_S (Cut.nil _) hP hD hK hG) rfl rfl hl.1 rfl (lv_room (Nat.le_of_ble_eq_true rfl)) dX5_plain_6 ⟨Nat.le_refl _, Nat.le_refl _⟩) (Cut.nil _) hP hD hS hA (fun H locs hP hD hS => ?_)
  refine lv_aload_n hx hb dX5_plain_9 rfl (lv_at hl 0 rfl) ?_
  refine ld_f S iX5 hK hP 0 3 (.ref (A 41)) (gX5_0 _ _ _ _ _ _ _ _ _ _) rfl (by decide) k31 rfl rfl dX5_plain_10 ?_
  refine lv_iload_n hx hb dX5_plain_13 rfl (lv_at hl 1 rfl) ?_
  refine lv_iload_n hx hb dX5_plain_14 rfl (lv_at hl 2 rfl) ?_
  obtain ⟨q15, h15, hf⟩ := bd_t hf
  refine cl_i (va_runS (As := [.int x1, .int x2]) (rest := [.ref (A 41)]) S (mX5_spotOf l D cI cZ x1 x2 H.size q15 h15) (va_cwS 2 hts gX5_plain_X5_spotOf rfl rfl rfl (by decide +kernel) ⟨Nat.le_of_ble_eq_true rfl, Nat.le_of_ble_eq_true rfl⟩) (mP_S (Cut.nil _) hP hD hK hG) rfl rfl hl.1 rfl (lv_room (Nat.le_of_ble_eq_true rfl)) dX5_plain_15 ⟨Nat.le_refl _, Nat.le_refl _⟩) (Cut.nil _) hP hD hS hA (fun H locs hP hD hS => ?_)
  refine lv_iload_n hx hb dX5_plain_18 rfl (lv_at hl 3 rfl) ?_
  obtain ⟨q19, h19, hf⟩ := bd_t hf
  refine cl_i (va_runS (As := [.int x3]) (rest := [.int q15, .ref (A 41)]) S (mX0_bitOf l D cI cZ x3 H.size q19 h19) (va_cwS 1 hts gX5_plain_X0_bitOf rfl rfl rfl (by decide +kernel) ⟨Nat.le_of_ble_eq_true rfl, Nat.le_of_ble_eq_true rfl⟩) (mP_S (Cut.nil _) hP hD hK hG) rfl rfl hl.1 rfl (lv_room (Nat.le_of_ble_eq_true rfl)) dX5_plain_19 ⟨Nat.le_refl _, Nat.le_refl _⟩) (Cut.nil _) hP hD hS hA (fun H locs hP hD hS => ?_)
  refine lv_iload_n hx hb dX5_plain_22 rfl (lv_at hl 3 rfl) ?_
  obtain ⟨q23, h23, hf⟩ := bd_t hf
  refine cl_v (va_runV (As := [.int q15, .int q19, .int x3]) (rest := []) S (mX0_setUp l D cI cZ (aX5_X0_4 A) cl q15 q19 x3 H.size q23 h23) (cwV 3 hts gX5_plain_X0_setUp rfl rfl rfl (by decide +kernel) ⟨Nat.le_of_ble_eq_true rfl, Nat.le_of_ble_eq_true rfl⟩) (mP_V (ci := 0) (cutX5_X0_4 _ _ _ _ _ _ _ _ _ _ st0) hP hD hK hG rfl (gX0_0 _ _ _ _)) rfl rfl hl.1 rfl (lv_room (Nat.le_of_ble_eq_true rfl)) dX5_plain_23 ⟨Nat.le_refl _, Nat.le_refl _⟩) (cutX5_X0_4 _ _ _ _ _ _ _ _ _ _ _) hP hD hS hA (fun H locs hP hD hS => ?_)
  exact hR _ ls H locs _ (congrArg (fun q => (wX5 cI cZ A cs cw ct cu q cb cp)) (Sum.inl.inj (Option.some.inj hf))) dX5_plain_26 hP hD hS
set_option maxHeartbeats 4000000 in
set_option maxRecDepth 100000 in
theorem mX5_trunk (l : Launch) (D : va_G) (cI cZ : ClassId) (A : Nat → Nat)  (cs : St) (cw : St) (ct : St) (cu : St) (cl : St) (cb : St) (cp : St) (x1 : Int32) (x2 : Int32) (x3 : Int32) (x4 : Int32) (sz : Nat) (res : St) (hf : fX5_trunk cl x1 x2 x3 x4 = some (.inl res)) : Met l yX5_trunk wsX5_trunk ({ frames := 8, cells := 0, slots := 0, locals := 137 }) (mP D (tysX cI cZ) [.ref (A 0), .int x1, .int x2, .int x3, .int x4] (wX5 cI cZ A cs cw ct cu cl cb cp) sz) (mQv D (wX5 cI cZ A cs cw ct cu cl cb cp) (wX5 cI cZ A cs cw ct cu res cb cp) sz) 0 0 (va_A (wX5 cI cZ A cs cw ct cu cl cb cp) sz) := by
  refine mkM_v (cc := cX5_trunk) (maxL := 5) (own := RX5) (by decide +kernel) rfl rfl (Nat.le_of_ble_eq_true rfl) ?_
  intro p e s m args below meth c A0 Q S hK hG hA hR
  obtain ⟨hx, hb, hml, hown, hts⟩ := id S
  have k31 := hts (.fieldLink RX5 31 "SwitchFloor" "lanes" "LSwitchFloor$Lanes;") (by decide +kernel)
  have iX5 : ∀ w ∈ wsX50, w ∈ wsX5_trunk := by decide +kernel
  intro H locs hP hD hS ls hl
  have hl : lv_has ls 5 [(0, .ref (A 0)), (1, .int x1), (2, .int x2), (3, .int x3), (4, .int x4)] := hl
  unfold fX5_trunk at hf
  refine lv_iload_n hx hb dX5_trunk_0 rfl (lv_at hl 1 rfl) ?_
  refine lv_iload_n hx hb dX5_trunk_1 rfl (lv_at hl 2 rfl) ?_
  obtain ⟨q2, h2, hf⟩ := bx_l hf
  refine cl_v (va_runS (As := [.int x1, .int x2]) (rest := []) S (mX5_needPort l D cI cZ x1 x2 H.size q2 h2) (va_cwS 2 hts gX5_trunk_X5_needPort rfl rfl rfl (by decide +kernel) ⟨Nat.le_of_ble_eq_true rfl, Nat.le_of_ble_eq_true rfl⟩) (mP_S (Cut.nil _) hP hD hK hG) rfl rfl hl.1 rfl (lv_room (Nat.le_of_ble_eq_true rfl)) dX5_trunk_2 ⟨Nat.le_refl _, Nat.le_refl _⟩) (Cut.nil _) hP hD hS hA (fun H locs hP hD hS => ?_)
  refine lv_iload hx hb dX5_trunk_5 (lv_at hl 4 rfl) ?_
  obtain ⟨q7, h7, hf⟩ := bx_l hf
  refine cl_v (va_runS (As := [.int x4]) (rest := []) S (mX5_needLane l D cI cZ x4 H.size q7 h7) (va_cwS 1 hts gX5_trunk_X5_needLane rfl rfl rfl (by decide +kernel) ⟨Nat.le_of_ble_eq_true rfl, Nat.le_of_ble_eq_true rfl⟩) (mP_S (Cut.nil _) hP hD hK hG) rfl rfl hl.1 rfl (lv_room (Nat.le_of_ble_eq_true rfl)) dX5_trunk_7 ⟨Nat.le_refl _, Nat.le_refl _⟩) (Cut.nil _) hP hD hS hA (fun H locs hP hD hS => ?_)
  refine lv_iload_n hx hb dX5_trunk_10 rfl (lv_at hl 3 rfl) ?_
  refine lv_iconst (v := 1) hx hb dX5_trunk_11 (by decide) ?_
  refine lv_bipush (v := 7) hx hb dX5_trunk_12 (by decide) ?_
  obtain ⟨q14, h14, hf⟩ := bx_l hf
  refine cl_v (va_runS (As := [.int x3, .int 1, .int 7]) (rest := []) S (mX5_needWithin l D cI cZ x3 1 7 H.size q14 h14) (va_cwS 3 hts gX5_trunk_X5_needWithin rfl rfl rfl (by decide +kernel) ⟨Nat.le_of_ble_eq_true rfl, Nat.le_of_ble_eq_true rfl⟩) (mP_S (Cut.nil _) hP hD hK hG) rfl rfl hl.1 rfl (lv_room (Nat.le_of_ble_eq_true rfl)) dX5_trunk_14 ⟨Nat.le_refl _, Nat.le_refl _⟩) (Cut.nil _) hP hD hS hA (fun H locs hP hD hS => ?_)
  refine lv_aload_n hx hb dX5_trunk_17 rfl (lv_at hl 0 rfl) ?_
  refine ld_f S iX5 hK hP 0 3 (.ref (A 41)) (gX5_0 _ _ _ _ _ _ _ _ _ _) rfl (by decide) k31 rfl rfl dX5_trunk_18 ?_
  refine lv_iload_n hx hb dX5_trunk_21 rfl (lv_at hl 1 rfl) ?_
  refine lv_iload_n hx hb dX5_trunk_22 rfl (lv_at hl 2 rfl) ?_
  obtain ⟨q23, h23, hf⟩ := bd_t hf
  refine cl_i (va_runS (As := [.int x1, .int x2]) (rest := [.ref (A 41)]) S (mX5_spotOf l D cI cZ x1 x2 H.size q23 h23) (va_cwS 2 hts gX5_trunk_X5_spotOf rfl rfl rfl (by decide +kernel) ⟨Nat.le_of_ble_eq_true rfl, Nat.le_of_ble_eq_true rfl⟩) (mP_S (Cut.nil _) hP hD hK hG) rfl rfl hl.1 rfl (lv_room (Nat.le_of_ble_eq_true rfl)) dX5_trunk_23 ⟨Nat.le_refl _, Nat.le_refl _⟩) (Cut.nil _) hP hD hS hA (fun H locs hP hD hS => ?_)
  refine lv_iload_n hx hb dX5_trunk_26 rfl (lv_at hl 3 rfl) ?_
  refine lv_iload hx hb dX5_trunk_27 (lv_at hl 4 rfl) ?_
  obtain ⟨q29, h29, hf⟩ := bd_t hf
  refine cl_v (va_runV (As := [.int q23, .int x3, .int x4]) (rest := []) S (mX0_setUp l D cI cZ (aX5_X0_4 A) cl q23 x3 x4 H.size q29 h29) (cwV 3 hts gX5_trunk_X0_setUp rfl rfl rfl (by decide +kernel) ⟨Nat.le_of_ble_eq_true rfl, Nat.le_of_ble_eq_true rfl⟩) (mP_V (ci := 0) (cutX5_X0_4 _ _ _ _ _ _ _ _ _ _ st0) hP hD hK hG rfl (gX0_0 _ _ _ _)) rfl rfl hl.1 rfl (lv_room (Nat.le_of_ble_eq_true rfl)) dX5_trunk_29 ⟨Nat.le_refl _, Nat.le_refl _⟩) (cutX5_X0_4 _ _ _ _ _ _ _ _ _ _ _) hP hD hS hA (fun H locs hP hD hS => ?_)
  exact hR _ ls H locs _ (congrArg (fun q => (wX5 cI cZ A cs cw ct cu q cb cp)) (Sum.inl.inj (Option.some.inj hf))) dX5_trunk_32 hP hD hS
set_option maxHeartbeats 4000000 in
set_option maxRecDepth 100000 in
theorem mX5_limit (l : Launch) (D : va_G) (cI cZ : ClassId) (A : Nat → Nat)  (cs : St) (cw : St) (ct : St) (cu : St) (cl : St) (cb : St) (cp : St) (x1 : Int32) (sz : Nat) (res : Int32 × St) (hf : fX5_limit cs x1 = some (.inl res)) : Met l yX5_limit wsX5_limit ({ frames := 7, cells := 0, slots := 0, locals := 118 }) (mP D (tysX cI cZ) [.ref (A 0), .int x1] (wX5 cI cZ A cs cw ct cu cl cb cp) sz) (mQi D res.1 (wX5 cI cZ A cs cw ct cu cl cb cp) (wX5 cI cZ A (res.2) cw ct cu cl cb cp) sz) 0 0 (va_A (wX5 cI cZ A cs cw ct cu cl cb cp) sz) := by
  refine mkM_i (cc := cX5_limit) (maxL := 3) (own := RX5) (by decide +kernel) rfl rfl (Nat.le_of_ble_eq_true rfl) ?_
  intro p e s m args below meth c A0 Q S hK hG hA hR
  obtain ⟨hx, hb, hml, hown, hts⟩ := id S
  have k59 := hts (.fieldLink RX5 59 "SwitchFloor" "floodLimit" "I") (by decide +kernel)
  have iX5 : ∀ w ∈ wsX50, w ∈ wsX5_limit := by decide +kernel
  intro H locs hP hD hS ls hl
  have hl : lv_has ls 3 [(0, .ref (A 0)), (1, .int x1)] := hl
  unfold fX5_limit at hf
  refine lv_iload_n hx hb dX5_limit_0 rfl (lv_at hl 1 rfl) ?_
  refine lv_iconst (v := 1) hx hb dX5_limit_1 (by decide) ?_
  refine lv_bipush (v := 100) hx hb dX5_limit_2 (by decide) ?_
  obtain ⟨q4, h4, hf⟩ := bx_l hf
  refine cl_v (va_runS (As := [.int x1, .int 1, .int 100]) (rest := []) S (mX5_needWithin l D cI cZ x1 1 100 H.size q4 h4) (va_cwS 3 hts gX5_limit_X5_needWithin rfl rfl rfl (by decide +kernel) ⟨Nat.le_of_ble_eq_true rfl, Nat.le_of_ble_eq_true rfl⟩) (mP_S (Cut.nil _) hP hD hK hG) rfl rfl hl.1 rfl (lv_room (Nat.le_of_ble_eq_true rfl)) dX5_limit_4 ⟨Nat.le_refl _, Nat.le_refl _⟩) (Cut.nil _) hP hD hS hA (fun H locs hP hD hS => ?_)
  refine lv_aload_n hx hb dX5_limit_7 rfl (lv_at hl 0 rfl) ?_
  refine ld_f S iX5 hK hP 0 9 (.int (cs 9 0)) (gX5_0 _ _ _ _ _ _ _ _ _ _) rfl (by decide) k59 rfl rfl dX5_limit_8 ?_
  refine lv_istore_n (lv' := [(2, .int (cs 9 0)), (0, .ref (A 0)), (1, .int x1)]) hx hb dX5_limit_11 rfl hl (by decide) rfl (fun ls hl => ?_)
  refine lv_aload_n hx hb dX5_limit_12 rfl (lv_at hl 1 rfl) ?_
  refine lv_iload_n hx hb dX5_limit_13 rfl (lv_at hl 2 rfl) ?_
  refine st_f S iX5 tyX5 tyX5_ok nmX5 hK hP hD hS 0 9 (sX5_0_9 _ _ _ _ _ _ _ _ _ _ _) (gX5_0 _ _ _ _ _ _ _ _ _ _) rfl (by decide) k59 rfl rfl (by decide +kernel) rfl dX5_limit_14 (fun H locs hP hD hS => ?_)
  refine lv_iload_n hx hb dX5_limit_17 rfl (lv_at hl 0 rfl) ?_
  exact hR _ ls H locs _ _ (congrArg (fun q => q.1) (Sum.inl.inj (Option.some.inj hf))) (congrArg (fun q => (wX5 cI cZ A (q.2) cw ct cu cl cb cp)) (Sum.inl.inj (Option.some.inj hf))) rfl dX5_limit_18 hP hD hS
set_option maxHeartbeats 4000000 in
set_option maxRecDepth 100000 in
theorem mX5_passBeat (l : Launch) (D : va_G) (cI cZ : ClassId) (A : Nat → Nat)  (cs : St) (cw : St) (ct : St) (cu : St) (cl : St) (cb : St) (cp : St) (sz : Nat) (res : St × St × St) (hf : fX5_passBeat cs cw ct cb = some res) : Met l yX5_passBeat wsX5_passBeat ({ frames := 5, cells := 0, slots := 0, locals := 114 }) (mP D (tysX cI cZ) [.ref (A 0)] (wX5 cI cZ A cs cw ct cu cl cb cp) sz) (mQv D (wX5 cI cZ A cs cw ct cu cl cb cp) (wX5 cI cZ A (res.1) cw (res.2.1) cu cl (res.2.2) cp) sz) 0 0 (va_A (wX5 cI cZ A cs cw ct cu cl cb cp) sz) := by
  refine mkM_v (cc := cX5_passBeat) (maxL := 2) (own := RX5) (by decide +kernel) rfl rfl (Nat.le_of_ble_eq_true rfl) ?_
  intro p e s m args below meth c A0 Q S hK hG hA hR
  obtain ⟨hx, hb, hml, hown, hts⟩ := id S
  have k21 := hts (.fieldLink RX5 21 "SwitchFloor" "tree" "LSwitchFloor$Tree;") (by decide +kernel)
  have iX5 : ∀ w ∈ wsX50, w ∈ wsX5_passBeat := by decide +kernel
  have k38 := hts (.fieldLink RX5 38 "SwitchFloor" "tables" "LSwitchFloor$Tables;") (by decide +kernel)
  have k160 := hts (.fieldLink RX5 160 "SwitchFloor$Tree" "beats" "I") (by decide +kernel)
  have iX3 : ∀ w ∈ wsX30, w ∈ wsX5_passBeat := by decide +kernel
  have k276 := hts (.fieldLink RX5 276 "SwitchFloor$Tree" "stale" "[Z") (by decide +kernel)
  have k49 := hts (.fieldLink RX5 49 "SwitchFloor" "floods" "[I") (by decide +kernel)
  have k273 := hts (.fieldLink RX5 273 "SwitchFloor$Tree" "caught" "[Z") (by decide +kernel)
  have B82 : ∀ (cs : St) (ct : St) (cb : St), fX5_passBeat_J82 cs cw ct cb = some res → Bk p l e ({ frames := 5, cells := 0, slots := 0, locals := 114 }) s m args below meth c Q A0 D 2 0 0 (wX5 cI cZ A cs cw ct cu cl cb cp) [(0, .ref (A 0))] 82 [] := by
    intro cs ct cb hf
    unfold fX5_passBeat_J82 at hf
    intro H locs hP hD hS ls hl
    refine lv_aload_n hx hb dX5_passBeat_82 rfl (lv_at hl 0 rfl) ?_
    refine ld_f S iX5 hK hP 0 4 (.ref (A 44)) (gX5_0 _ _ _ _ _ _ _ _ _ _) rfl (by decide) k38 rfl rfl dX5_passBeat_83 ?_
    refine lv_aload_n hx hb dX5_passBeat_86 rfl (lv_at hl 0 rfl) ?_
    refine ld_f S iX5 hK hP 0 1 (.ref (A 11)) (gX5_0 _ _ _ _ _ _ _ _ _ _) rfl (by decide) k21 rfl rfl dX5_passBeat_87 ?_
    refine ld_f S iX3 hK hP 11 9 (.int (ct 9 0)) (gX5_11 _ _ _ _ _ _ _ _ _ _) rfl (by decide) k160 rfl rfl dX5_passBeat_90 ?_
    obtain ⟨q93, h93, hf⟩ := bd_t hf
    refine cl_v (va_runV (As := [.int (ct 9 0)]) (rest := []) S (mX2_dropOld l D cI cZ (aX5_X2_5 A) cb (ct 9 0) H.size q93 h93) (cwV 1 hts gX5_passBeat_X2_dropOld rfl rfl rfl (by decide +kernel) ⟨Nat.le_of_ble_eq_true rfl, Nat.le_of_ble_eq_true rfl⟩) (mP_V (ci := 2) (cutX5_X2_5 _ _ _ _ _ _ _ _ _ _ st0) hP hD hK hG rfl (gX2_0 _ _ _ _)) rfl rfl hl.1 rfl (lv_room (Nat.le_of_ble_eq_true rfl)) dX5_passBeat_93 ⟨Nat.le_refl _, Nat.le_refl _⟩) (cutX5_X2_5 _ _ _ _ _ _ _ _ _ _ _) hP hD hS hA (fun H locs hP hD hS => ?_)
    exact hR _ ls H locs _ (congrArg (fun q => (wX5 cI cZ A (q.1) cw (q.2.1) cu cl (q.2.2) cp)) (Option.some.inj hf)) dX5_passBeat_96 hP hD hS
  have B50 : ∀ (cs : St) (ct : St) (cb : St) (x1 : Int32), fX5_passBeat_L50 cs cw ct cb x1 = some res → Bk p l e ({ frames := 5, cells := 0, slots := 0, locals := 114 }) s m args below meth c Q A0 D 2 0 0 (wX5 cI cZ A cs cw ct cu cl cb cp) [(0, .ref (A 0)), (1, .int x1)] 50 [] := by
    intro cs ct cb x1 hf
    refine loop_ind (step := (fun k a => fX5_passBeat_S50 k cs cw ct (a.1) (a.2))) (fun a => Bk p l e ({ frames := 5, cells := 0, slots := 0, locals := 114 }) s m args below meth c Q A0 D 2 0 0 (wX5 cI cZ A cs cw ct cu cl (a.1) cp) [(0, .ref (A 0)), (1, .int (a.2))] 50 []) ?_ _ _ hf
    clear hf
    intro k50 hk50 a hf
    obtain ⟨cb_, x1_⟩ := a
    clear cb x1
    obtain ⟨cb, e_⟩ : ∃ z, z = cb_ := ⟨_, rfl⟩
    subst e_
    obtain ⟨x1, e_⟩ : ∃ z, z = x1_ := ⟨_, rfl⟩
    subst e_
    have hf : fX5_passBeat_S50 k50 cs cw ct cb x1 = some res := hf
    show Bk p l e ({ frames := 5, cells := 0, slots := 0, locals := 114 }) s m args below meth c Q A0 D 2 0 0 (wX5 cI cZ A cs cw ct cu cl cb cp) [(0, .ref (A 0)), (1, .int x1)] 50 []
    unfold fX5_passBeat_S50 at hf
    intro H locs hP hD hS ls hl
    refine lv_iload_n hx hb dX5_passBeat_50 rfl (lv_at hl 1 rfl) ?_
    refine lv_bipush (v := 6) hx hb dX5_passBeat_51 (by decide) ?_
    refine lv_icmp_ge (tgt := 82) hx hb dX5_passBeat_53 (by decide) (fun c53 => ?_) (fun c53 => ?_)
    · have hf := if_t c53 hf
      exact B82 _ _ _ hf H locs hP hD hS ls (lv_sub hl [0] rfl)
    · have hf := if_f c53 hf
      refine lv_aload_n hx hb dX5_passBeat_56 rfl (lv_at hl 0 rfl) ?_
      refine ld_f S iX5 hK hP 0 1 (.ref (A 11)) (gX5_0 _ _ _ _ _ _ _ _ _ _) rfl (by decide) k21 rfl rfl dX5_passBeat_57 ?_
      refine ld_f S iX3 hK hP 11 14 (.ref (A 24)) (gX5_11 _ _ _ _ _ _ _ _ _ _) rfl (by decide) k276 rfl rfl dX5_passBeat_60 ?_
      refine lv_iload_n hx hb dX5_passBeat_63 rfl (lv_at hl 1 rfl) ?_
      obtain ⟨c64, hf⟩ := ck_t hf
      refine va_zald (f := ct 14) hx hb hK hP 24 1 (gX5_24 _ _ _ _ _ _ _ _ _ _) rfl (inb_in c64) dX5_passBeat_64 ?_
      refine lv_if_eq (tgt := 76) hx hb dX5_passBeat_65 (by decide) (fun c65 => ?_) (fun c65 => ?_)
      · have hf := if_t c65 hf
        refine lv_iinc (v := x1 + 1) (lv' := [(1, .int (x1 + 1)), (0, .ref (A 0))]) hx hb dX5_passBeat_76 hl (k := 1) rfl rfl (by decide) rfl (fun ls hl => ?_)
        refine lv_goto (tgt := 50) hx hb dX5_passBeat_79 (by decide) ?_
        exact hk50 _ hf H locs hP hD hS ls (lv_sub hl [1, 0] rfl)
      · have hf := if_f c65 hf
        refine lv_aload_n hx hb dX5_passBeat_68 rfl (lv_at hl 0 rfl) ?_
        refine ld_f S iX5 hK hP 0 4 (.ref (A 44)) (gX5_0 _ _ _ _ _ _ _ _ _ _) rfl (by decide) k38 rfl rfl dX5_passBeat_69 ?_
        refine lv_iload_n hx hb dX5_passBeat_72 rfl (lv_at hl 1 rfl) ?_
        obtain ⟨q73, h73, hf⟩ := bd_t hf
        refine cl_v (va_runV (As := [.int x1]) (rest := []) S (mX2_empty l D cI cZ (aX5_X2_5 A) cb x1 H.size q73 h73) (cwV 1 hts gX5_passBeat_X2_empty rfl rfl rfl (by decide +kernel) ⟨Nat.le_of_ble_eq_true rfl, Nat.le_of_ble_eq_true rfl⟩) (mP_V (ci := 2) (cutX5_X2_5 _ _ _ _ _ _ _ _ _ _ st0) hP hD hK hG rfl (gX2_0 _ _ _ _)) rfl rfl hl.1 rfl (lv_room (Nat.le_of_ble_eq_true rfl)) dX5_passBeat_73 ⟨Nat.le_refl _, Nat.le_refl _⟩) (cutX5_X2_5 _ _ _ _ _ _ _ _ _ _ _) hP hD hS hA (fun H locs hP hD hS => ?_)
        refine lv_iinc (v := x1 + 1) (lv' := [(1, .int (x1 + 1)), (0, .ref (A 0))]) hx hb dX5_passBeat_76 hl (k := 1) rfl rfl (by decide) rfl (fun ls hl => ?_)
        refine lv_goto (tgt := 50) hx hb dX5_passBeat_79 (by decide) ?_
        exact hk50 _ hf H locs hP hD hS ls (lv_sub hl [1, 0] rfl)
  have B48 : ∀ (cs : St) (ct : St) (cb : St), fX5_passBeat_J48 cs cw ct cb = some res → Bk p l e ({ frames := 5, cells := 0, slots := 0, locals := 114 }) s m args below meth c Q A0 D 2 0 0 (wX5 cI cZ A cs cw ct cu cl cb cp) [(0, .ref (A 0))] 48 [] := by
    intro cs ct cb hf
    unfold fX5_passBeat_J48 at hf
    intro H locs hP hD hS ls hl
    refine lv_iconst (v := 0) hx hb dX5_passBeat_48 (by decide) ?_
    refine lv_istore_n (lv' := [(1, .int 0), (0, .ref (A 0))]) hx hb dX5_passBeat_49 rfl hl (by decide) rfl (fun ls hl => ?_)
    exact B50 _ _ _ _ hf H locs hP hD hS ls (lv_sub hl [1, 0] rfl)
  have B9 : ∀ (ct : St) (cs : St) (cb : St) (x1 : Int32), fX5_passBeat_L9 cw ct cs cb x1 = some res → Bk p l e ({ frames := 5, cells := 0, slots := 0, locals := 114 }) s m args below meth c Q A0 D 2 0 0 (wX5 cI cZ A cs cw ct cu cl cb cp) [(0, .ref (A 0)), (1, .int x1)] 9 [] := by
    intro ct cs cb x1 hf
    refine loop_ind (step := (fun k a => fX5_passBeat_S9 k cw ct (a.1) (a.2.1) (a.2.2))) (fun a => Bk p l e ({ frames := 5, cells := 0, slots := 0, locals := 114 }) s m args below meth c Q A0 D 2 0 0 (wX5 cI cZ A (a.1) cw ct cu cl (a.2.1) cp) [(0, .ref (A 0)), (1, .int (a.2.2))] 9 []) ?_ _ _ hf
    clear hf
    intro k9 hk9 a hf
    obtain ⟨cs_, cb_, x1_⟩ := a
    clear cs cb x1
    obtain ⟨cs, e_⟩ : ∃ z, z = cs_ := ⟨_, rfl⟩
    subst e_
    obtain ⟨cb, e_⟩ : ∃ z, z = cb_ := ⟨_, rfl⟩
    subst e_
    obtain ⟨x1, e_⟩ : ∃ z, z = x1_ := ⟨_, rfl⟩
    subst e_
    have hf : fX5_passBeat_S9 k9 cw ct cs cb x1 = some res := hf
    show Bk p l e ({ frames := 5, cells := 0, slots := 0, locals := 114 }) s m args below meth c Q A0 D 2 0 0 (wX5 cI cZ A cs cw ct cu cl cb cp) [(0, .ref (A 0)), (1, .int x1)] 9 []
    unfold fX5_passBeat_S9 at hf
    intro H locs hP hD hS ls hl
    refine lv_iload_n hx hb dX5_passBeat_9 rfl (lv_at hl 1 rfl) ?_
    refine lv_bipush (v := 30) hx hb dX5_passBeat_10 (by decide) ?_
    refine lv_icmp_ge (tgt := 48) hx hb dX5_passBeat_12 (by decide) (fun c12 => ?_) (fun c12 => ?_)
    · have hf := if_t c12 hf
      exact B48 _ _ _ hf H locs hP hD hS ls (lv_sub hl [0] rfl)
    · have hf := if_f c12 hf
      refine lv_aload_n hx hb dX5_passBeat_15 rfl (lv_at hl 0 rfl) ?_
      refine ld_f S iX5 hK hP 0 6 (.ref (A 1)) (gX5_0 _ _ _ _ _ _ _ _ _ _) rfl (by decide) k49 rfl rfl dX5_passBeat_16 ?_
      refine lv_iload_n hx hb dX5_passBeat_19 rfl (lv_at hl 1 rfl) ?_
      refine lv_iconst (v := 0) hx hb dX5_passBeat_20 (by decide) ?_
      obtain ⟨c21, hf⟩ := ck_t hf
      refine st_i hx hb hK hP hD hS 1 0 (sX5_1 _ _ _ _ _ _ _ _ _ _ _ _) (gX5_1 _ _ _ _ _ _ _ _ _ _) rfl c21 dX5_passBeat_21 (fun H locs hP hD hS => ?_)
      refine lv_aload_n hx hb dX5_passBeat_22 rfl (lv_at hl 0 rfl) ?_
      refine ld_f S iX5 hK hP 0 1 (.ref (A 11)) (gX5_0 _ _ _ _ _ _ _ _ _ _) rfl (by decide) k21 rfl rfl dX5_passBeat_23 ?_
      refine ld_f S iX3 hK hP 11 13 (.ref (A 23)) (gX5_11 _ _ _ _ _ _ _ _ _ _) rfl (by decide) k273 rfl rfl dX5_passBeat_26 ?_
      refine lv_iload_n hx hb dX5_passBeat_29 rfl (lv_at hl 1 rfl) ?_
      obtain ⟨c30, hf⟩ := ck_t hf
      refine va_zald (f := ct 13) hx hb hK hP 23 1 (gX5_23 _ _ _ _ _ _ _ _ _ _) rfl (inb_in c30) dX5_passBeat_30 ?_
      refine lv_if_eq (tgt := 42) hx hb dX5_passBeat_31 (by decide) (fun c31 => ?_) (fun c31 => ?_)
      · have hf := if_t c31 hf
        refine lv_iinc (v := x1 + 1) (lv' := [(1, .int (x1 + 1)), (0, .ref (A 0))]) hx hb dX5_passBeat_42 hl (k := 1) rfl rfl (by decide) rfl (fun ls hl => ?_)
        refine lv_goto (tgt := 9) hx hb dX5_passBeat_45 (by decide) ?_
        exact hk9 _ hf H locs hP hD hS ls (lv_sub hl [1, 0] rfl)
      · have hf := if_f c31 hf
        refine lv_aload_n hx hb dX5_passBeat_34 rfl (lv_at hl 0 rfl) ?_
        refine ld_f S iX5 hK hP 0 4 (.ref (A 44)) (gX5_0 _ _ _ _ _ _ _ _ _ _) rfl (by decide) k38 rfl rfl dX5_passBeat_35 ?_
        refine lv_iload_n hx hb dX5_passBeat_38 rfl (lv_at hl 1 rfl) ?_
        obtain ⟨q39, h39, hf⟩ := bd_t hf
        refine cl_v (va_runV (As := [.int x1]) (rest := []) S (mX2_forgetPort l D cI cZ (aX5_X2_5 A) cb x1 H.size q39 h39) (cwV 1 hts gX5_passBeat_X2_forgetPort rfl rfl rfl (by decide +kernel) ⟨Nat.le_of_ble_eq_true rfl, Nat.le_of_ble_eq_true rfl⟩) (mP_V (ci := 2) (cutX5_X2_5 _ _ _ _ _ _ _ _ _ _ st0) hP hD hK hG rfl (gX2_0 _ _ _ _)) rfl rfl hl.1 rfl (lv_room (Nat.le_of_ble_eq_true rfl)) dX5_passBeat_39 ⟨Nat.le_refl _, Nat.le_refl _⟩) (cutX5_X2_5 _ _ _ _ _ _ _ _ _ _ _) hP hD hS hA (fun H locs hP hD hS => ?_)
        refine lv_iinc (v := x1 + 1) (lv' := [(1, .int (x1 + 1)), (0, .ref (A 0))]) hx hb dX5_passBeat_42 hl (k := 1) rfl rfl (by decide) rfl (fun ls hl => ?_)
        refine lv_goto (tgt := 9) hx hb dX5_passBeat_45 (by decide) ?_
        exact hk9 _ hf H locs hP hD hS ls (lv_sub hl [1, 0] rfl)
  intro H locs hP hD hS ls hl
  have hl : lv_has ls 2 [(0, .ref (A 0))] := hl
  unfold fX5_passBeat at hf
  refine lv_aload_n hx hb dX5_passBeat_0 rfl (lv_at hl 0 rfl) ?_
  refine ld_f S iX5 hK hP 0 1 (.ref (A 11)) (gX5_0 _ _ _ _ _ _ _ _ _ _) rfl (by decide) k21 rfl rfl dX5_passBeat_1 ?_
  obtain ⟨q4, h4, hf⟩ := bd_t hf
  refine cl_v (va_runV (As := []) (rest := []) S (mX3_pass l D cI cZ (aX5_X3_2_1 A) ct cw H.size q4 h4) (cwV 0 hts gX5_passBeat_X3_pass rfl rfl rfl (by decide +kernel) ⟨Nat.le_of_ble_eq_true rfl, Nat.le_of_ble_eq_true rfl⟩) (mP_V (ci := 3) (cutX5_X3_2_1 _ _ _ _ _ _ _ _ _ _ st0 st0) hP hD hK hG rfl (gX3_0 _ _ _ _ _)) rfl rfl hl.1 rfl (lv_room (Nat.le_of_ble_eq_true rfl)) dX5_passBeat_4 ⟨Nat.le_refl _, Nat.le_refl _⟩) (cutX5_X3_2_1 _ _ _ _ _ _ _ _ _ _ _ _) hP hD hS hA (fun H locs hP hD hS => ?_)
  refine lv_iconst (v := 0) hx hb dX5_passBeat_7 (by decide) ?_
  refine lv_istore_n (lv' := [(1, .int 0), (0, .ref (A 0))]) hx hb dX5_passBeat_8 rfl hl (by decide) rfl (fun ls hl => ?_)
  exact B9 _ _ _ _ hf H locs hP hD hS ls (lv_sub hl [1, 0] rfl)
set_option maxHeartbeats 4000000 in
set_option maxRecDepth 100000 in
theorem mX5_beat (l : Launch) (D : va_G) (cI cZ : ClassId) (A : Nat → Nat)  (cs : St) (cw : St) (ct : St) (cu : St) (cl : St) (cb : St) (cp : St) (x1 : Int32) (sz : Nat) (res : Int32 × St × St × St) (hf : fX5_beat cs cw ct cb x1 = some (.inl res)) : Met l yX5_beat wsX5_beat ({ frames := 7, cells := 0, slots := 0, locals := 135 }) (mP D (tysX cI cZ) [.ref (A 0), .int x1] (wX5 cI cZ A cs cw ct cu cl cb cp) sz) (mQi D res.1 (wX5 cI cZ A cs cw ct cu cl cb cp) (wX5 cI cZ A (res.2.1) cw (res.2.2.1) cu cl (res.2.2.2) cp) sz) 0 0 (va_A (wX5 cI cZ A cs cw ct cu cl cb cp) sz) := by
  refine mkM_i (cc := cX5_beat) (maxL := 3) (own := RX5) (by decide +kernel) rfl rfl (Nat.le_of_ble_eq_true rfl) ?_
  intro p e s m args below meth c A0 Q S hK hG hA hR
  obtain ⟨hx, hb, hml, hown, hts⟩ := id S
  have k21 := hts (.fieldLink RX5 21 "SwitchFloor" "tree" "LSwitchFloor$Tree;") (by decide +kernel)
  have iX5 : ∀ w ∈ wsX50, w ∈ wsX5_beat := by decide +kernel
  have k160 := hts (.fieldLink RX5 160 "SwitchFloor$Tree" "beats" "I") (by decide +kernel)
  have iX3 : ∀ w ∈ wsX30, w ∈ wsX5_beat := by decide +kernel
  have B9 : ∀ (x1 : Int32) (cs : St) (ct : St) (cb : St) (x2 : Int32), fX5_beat_L9 cw x1 cs ct cb x2 = some (.inl res) → Bk p l e ({ frames := 7, cells := 0, slots := 0, locals := 135 }) s m args below meth c Q A0 D 3 0 0 (wX5 cI cZ A cs cw ct cu cl cb cp) [(0, .ref (A 0)), (1, .int x1), (2, .int x2)] 9 [] := by
    intro x1 cs ct cb x2 hf
    refine loop_ind (step := (fun k a => fX5_beat_S9 k cw x1 (a.1) (a.2.1) (a.2.2.1) (a.2.2.2))) (fun a => Bk p l e ({ frames := 7, cells := 0, slots := 0, locals := 135 }) s m args below meth c Q A0 D 3 0 0 (wX5 cI cZ A (a.1) cw (a.2.1) cu cl (a.2.2.1) cp) [(0, .ref (A 0)), (1, .int x1), (2, .int (a.2.2.2))] 9 []) ?_ _ _ hf
    clear hf
    intro k9 hk9 a hf
    obtain ⟨cs_, ct_, cb_, x2_⟩ := a
    clear cs ct cb x2
    obtain ⟨cs, e_⟩ : ∃ z, z = cs_ := ⟨_, rfl⟩
    subst e_
    obtain ⟨ct, e_⟩ : ∃ z, z = ct_ := ⟨_, rfl⟩
    subst e_
    obtain ⟨cb, e_⟩ : ∃ z, z = cb_ := ⟨_, rfl⟩
    subst e_
    obtain ⟨x2, e_⟩ : ∃ z, z = x2_ := ⟨_, rfl⟩
    subst e_
    have hf : fX5_beat_S9 k9 cw x1 cs ct cb x2 = some (.inl res) := hf
    show Bk p l e ({ frames := 7, cells := 0, slots := 0, locals := 135 }) s m args below meth c Q A0 D 3 0 0 (wX5 cI cZ A cs cw ct cu cl cb cp) [(0, .ref (A 0)), (1, .int x1), (2, .int x2)] 9 []
    unfold fX5_beat_S9 at hf
    intro H locs hP hD hS ls hl
    refine lv_iload_n hx hb dX5_beat_9 rfl (lv_at hl 2 rfl) ?_
    refine lv_iload_n hx hb dX5_beat_10 rfl (lv_at hl 1 rfl) ?_
    refine lv_icmp_ge (tgt := 24) hx hb dX5_beat_11 (by decide) (fun c11 => ?_) (fun c11 => ?_)
    · have hf := if_t c11 hf
      refine lv_aload_n hx hb dX5_beat_24 rfl (lv_at hl 0 rfl) ?_
      refine ld_f S iX5 hK hP 0 1 (.ref (A 11)) (gX5_0 _ _ _ _ _ _ _ _ _ _) rfl (by decide) k21 rfl rfl dX5_beat_25 ?_
      refine ld_f S iX3 hK hP 11 9 (.int (ct 9 0)) (gX5_11 _ _ _ _ _ _ _ _ _ _) rfl (by decide) k160 rfl rfl dX5_beat_28 ?_
      exact hR _ ls H locs _ _ (congrArg (fun q => q.1) (Sum.inl.inj (Option.some.inj hf))) (congrArg (fun q => (wX5 cI cZ A (q.2.1) cw (q.2.2.1) cu cl (q.2.2.2) cp)) (Sum.inl.inj (Option.some.inj hf))) rfl dX5_beat_31 hP hD hS
    · have hf := if_f c11 hf
      refine lv_aload_n hx hb dX5_beat_14 rfl (lv_at hl 0 rfl) ?_
      obtain ⟨q15, h15, hf⟩ := bd_t hf
      refine cl_v (va_runV (As := []) (rest := []) S (mX5_passBeat l D cI cZ A cs cw ct cu cl cb cp H.size q15 h15) (cwV 0 hts gX5_beat_X5_passBeat rfl rfl rfl (by decide +kernel) ⟨Nat.le_of_ble_eq_true rfl, Nat.le_of_ble_eq_true rfl⟩) (mP_V (ci := 5) (Cut.self _ []) hP hD hK hG rfl (gX5_0 _ _ _ _ _ _ _ _ _ _)) rfl rfl hl.1 rfl (lv_room (Nat.le_of_ble_eq_true rfl)) dX5_beat_15 ⟨Nat.le_refl _, Nat.le_refl _⟩) (Cut.self _ _) hP hD hS hA (fun H locs hP hD hS => ?_)
      refine lv_iinc (v := x2 + 1) (lv' := [(2, .int (x2 + 1)), (0, .ref (A 0)), (1, .int x1)]) hx hb dX5_beat_18 hl (k := 2) rfl rfl (by decide) rfl (fun ls hl => ?_)
      refine lv_goto (tgt := 9) hx hb dX5_beat_21 (by decide) ?_
      exact hk9 _ hf H locs hP hD hS ls (lv_sub hl [1, 2, 0] rfl)
  intro H locs hP hD hS ls hl
  have hl : lv_has ls 3 [(0, .ref (A 0)), (1, .int x1)] := hl
  unfold fX5_beat at hf
  refine lv_iload_n hx hb dX5_beat_0 rfl (lv_at hl 1 rfl) ?_
  refine lv_iconst (v := 1) hx hb dX5_beat_1 (by decide) ?_
  refine lv_bipush (v := 30) hx hb dX5_beat_2 (by decide) ?_
  obtain ⟨q4, h4, hf⟩ := bx_l hf
  refine cl_v (va_runS (As := [.int x1, .int 1, .int 30]) (rest := []) S (mX5_needWithin l D cI cZ x1 1 30 H.size q4 h4) (va_cwS 3 hts gX5_beat_X5_needWithin rfl rfl rfl (by decide +kernel) ⟨Nat.le_of_ble_eq_true rfl, Nat.le_of_ble_eq_true rfl⟩) (mP_S (Cut.nil _) hP hD hK hG) rfl rfl hl.1 rfl (lv_room (Nat.le_of_ble_eq_true rfl)) dX5_beat_4 ⟨Nat.le_refl _, Nat.le_refl _⟩) (Cut.nil _) hP hD hS hA (fun H locs hP hD hS => ?_)
  refine lv_iconst (v := 0) hx hb dX5_beat_7 (by decide) ?_
  refine lv_istore_n (lv' := [(2, .int 0), (0, .ref (A 0)), (1, .int x1)]) hx hb dX5_beat_8 rfl hl (by decide) rfl (fun ls hl => ?_)
  exact B9 _ _ _ _ _ hf H locs hP hD hS ls (lv_sub hl [1, 2, 0] rfl)
set_option maxHeartbeats 4000000 in
set_option maxRecDepth 100000 in
theorem mX5_laneLetIn (l : Launch) (D : va_G) (cI cZ : ClassId) (A : Nat → Nat)  (cs : St) (cw : St) (ct : St) (cu : St) (cl : St) (cb : St) (cp : St) (x1 : Int32) (x2 : Int32) (sz : Nat) (res : Int32) (hf : fX5_laneLetIn ct cl x1 x2 = some res) : Met l yX5_laneLetIn wsX5_laneLetIn ({ frames := 3, cells := 0, slots := 0, locals := 65 }) (mP D (tysX cI cZ) [.ref (A 0), .int x1, .int x2] (wX5 cI cZ A cs cw ct cu cl cb cp) sz) (mQi D res (wX5 cI cZ A cs cw ct cu cl cb cp) (wX5 cI cZ A cs cw ct cu cl cb cp) sz) 0 0 (va_A (wX5 cI cZ A cs cw ct cu cl cb cp) sz) := by
  refine mkM_i (cc := cX5_laneLetIn) (maxL := 3) (own := RX5) (by decide +kernel) rfl rfl (Nat.le_of_ble_eq_true rfl) ?_
  intro p e s m args below meth c A0 Q S hK hG hA hR
  obtain ⟨hx, hb, hml, hown, hts⟩ := id S
  have k21 := hts (.fieldLink RX5 21 "SwitchFloor" "tree" "LSwitchFloor$Tree;") (by decide +kernel)
  have iX5 : ∀ w ∈ wsX50, w ∈ wsX5_laneLetIn := by decide +kernel
  have k198 := hts (.fieldLink RX5 198 "SwitchFloor$Tree" "open" "[Z") (by decide +kernel)
  have iX3 : ∀ w ∈ wsX30, w ∈ wsX5_laneLetIn := by decide +kernel
  have k31 := hts (.fieldLink RX5 31 "SwitchFloor" "lanes" "LSwitchFloor$Lanes;") (by decide +kernel)
  intro H locs hP hD hS ls hl
  have hl : lv_has ls 3 [(0, .ref (A 0)), (1, .int x1), (2, .int x2)] := hl
  unfold fX5_laneLetIn at hf
  refine lv_aload_n hx hb dX5_laneLetIn_0 rfl (lv_at hl 0 rfl) ?_
  refine ld_f S iX5 hK hP 0 1 (.ref (A 11)) (gX5_0 _ _ _ _ _ _ _ _ _ _) rfl (by decide) k21 rfl rfl dX5_laneLetIn_1 ?_
  refine ld_f S iX3 hK hP 11 6 (.ref (A 17)) (gX5_11 _ _ _ _ _ _ _ _ _ _) rfl (by decide) k198 rfl rfl dX5_laneLetIn_4 ?_
  refine lv_iload_n hx hb dX5_laneLetIn_7 rfl (lv_at hl 1 rfl) ?_
  obtain ⟨c8, hf⟩ := ck_t hf
  refine va_zald (f := ct 6) hx hb hK hP 17 1 (gX5_17 _ _ _ _ _ _ _ _ _ _) rfl (inb_in c8) dX5_laneLetIn_8 ?_
  refine lv_if_eq (tgt := 24) hx hb dX5_laneLetIn_9 (by decide) (fun c9 => ?_) (fun c9 => ?_)
  · have hf := if_t c9 hf
    refine lv_iconst (v := 0) hx hb dX5_laneLetIn_24 (by decide) ?_
    exact hR _ ls H locs _ _ (congrArg (fun q => q) (Option.some.inj hf)) rfl rfl dX5_laneLetIn_25 hP hD hS
  · have hf := if_f c9 hf
    refine lv_aload_n hx hb dX5_laneLetIn_12 rfl (lv_at hl 0 rfl) ?_
    refine ld_f S iX5 hK hP 0 3 (.ref (A 41)) (gX5_0 _ _ _ _ _ _ _ _ _ _) rfl (by decide) k31 rfl rfl dX5_laneLetIn_13 ?_
    refine lv_iload_n hx hb dX5_laneLetIn_16 rfl (lv_at hl 1 rfl) ?_
    refine lv_iload_n hx hb dX5_laneLetIn_17 rfl (lv_at hl 2 rfl) ?_
    obtain ⟨q18, h18, hf⟩ := bd_t hf
    refine cl_i (va_runV (As := [.int x1, .int x2]) (rest := []) S (mX0_laneIn l D cI cZ (aX5_X0_4 A) cl x1 x2 H.size q18 h18) (cwV 2 hts gX5_laneLetIn_X0_laneIn rfl rfl rfl (by decide +kernel) ⟨Nat.le_of_ble_eq_true rfl, Nat.le_of_ble_eq_true rfl⟩) (mP_V (ci := 0) (cutX5_X0_4 _ _ _ _ _ _ _ _ _ _ st0) hP hD hK hG rfl (gX0_0 _ _ _ _)) rfl rfl hl.1 rfl (lv_room (Nat.le_of_ble_eq_true rfl)) dX5_laneLetIn_18 ⟨Nat.le_refl _, Nat.le_refl _⟩) (cutX5_X0_4 _ _ _ _ _ _ _ _ _ _ _) hP hD hS hA (fun H locs hP hD hS => ?_)
    refine lv_goto (tgt := 25) hx hb dX5_laneLetIn_21 (by decide) ?_
    exact hR _ ls H locs _ _ (congrArg (fun q => q) (Option.some.inj hf)) rfl rfl dX5_laneLetIn_25 hP hD hS
set_option maxHeartbeats 4000000 in
set_option maxRecDepth 100000 in
theorem mX5_handOver (l : Launch) (D : va_G) (cI cZ : ClassId) (A : Nat → Nat)  (cs : St) (cw : St) (ct : St) (cu : St) (cl : St) (cb : St) (cp : St) (x1 : Int32) (x2 : Int32) (sz : Nat) (res : Int32 × St) (hf : fX5_handOver cs x1 x2 = some res) : Met l yX5_handOver wsX5_handOver ({ frames := 0, cells := 0, slots := 0, locals := 0 }) (mP D (tysX cI cZ) [.ref (A 0), .int x1, .int x2] (wX5 cI cZ A cs cw ct cu cl cb cp) sz) (mQi D res.1 (wX5 cI cZ A cs cw ct cu cl cb cp) (wX5 cI cZ A (res.2) cw ct cu cl cb cp) sz) 0 0 (va_A (wX5 cI cZ A cs cw ct cu cl cb cp) sz) := by
  refine mkM_i (cc := cX5_handOver) (maxL := 3) (own := RX5) (by decide +kernel) rfl rfl (Nat.le_of_ble_eq_true rfl) ?_
  intro p e s m args below meth c A0 Q S hK hG hA hR
  obtain ⟨hx, hb, hml, hown, hts⟩ := id S
  have k53 := hts (.fieldLink RX5 53 "SwitchFloor" "gotFrames" "[I") (by decide +kernel)
  have iX5 : ∀ w ∈ wsX50, w ∈ wsX5_handOver := by decide +kernel
  have k56 := hts (.fieldLink RX5 56 "SwitchFloor" "overheardFrames" "[I") (by decide +kernel)
  have B18 : ∀ (cs : St) (x1 : Int32), fX5_handOver_J18 cs x1 = some res → Bk p l e ({ frames := 0, cells := 0, slots := 0, locals := 0 }) s m args below meth c Q A0 D 3 0 0 (wX5 cI cZ A cs cw ct cu cl cb cp) [(0, .ref (A 0)), (1, .int x1)] 18 [] := by
    intro cs x1 hf
    unfold fX5_handOver_J18 at hf
    intro H locs hP hD hS ls hl
    refine lv_aload_n hx hb dX5_handOver_18 rfl (lv_at hl 0 rfl) ?_
    refine ld_f S iX5 hK hP 0 7 (.ref (A 2)) (gX5_0 _ _ _ _ _ _ _ _ _ _) rfl (by decide) k53 rfl rfl dX5_handOver_19 ?_
    refine lv_iload_n hx hb dX5_handOver_22 rfl (lv_at hl 1 rfl) ?_
    refine lv_dup2_11 hx hb dX5_handOver_23 rfl rfl ?_
    obtain ⟨c24, hf⟩ := ck_t hf
    refine va_iald (f := cs 7) hx hb hK hP 2 0 (gX5_2 _ _ _ _ _ _ _ _ _ _) rfl (inb_in c24) dX5_handOver_24 ?_
    refine lv_iconst (v := 1) hx hb dX5_handOver_25 (by decide) ?_
    refine lv_iadd hx hb dX5_handOver_26 ?_
    obtain ⟨c27, hf⟩ := ck_t hf
    refine st_i hx hb hK hP hD hS 2 0 (sX5_2 _ _ _ _ _ _ _ _ _ _ _ _) (gX5_2 _ _ _ _ _ _ _ _ _ _) rfl c27 dX5_handOver_27 (fun H locs hP hD hS => ?_)
    refine lv_iconst (v := 1) hx hb dX5_handOver_28 (by decide) ?_
    exact hR _ ls H locs _ _ (congrArg (fun q => q.1) (Option.some.inj hf)) (congrArg (fun q => (wX5 cI cZ A (q.2) cw ct cu cl cb cp)) (Option.some.inj hf)) rfl dX5_handOver_29 hP hD hS
  intro H locs hP hD hS ls hl
  have hl : lv_has ls 3 [(0, .ref (A 0)), (1, .int x1), (2, .int x2)] := hl
  unfold fX5_handOver at hf
  refine lv_iload_n hx hb dX5_handOver_0 rfl (lv_at hl 1 rfl) ?_
  refine lv_iconst (v := (-1)) hx hb dX5_handOver_1 (by decide) ?_
  refine lv_icmp_ne (tgt := 7) hx hb dX5_handOver_2 (by decide) (fun c2 => ?_) (fun c2 => ?_)
  · have hf := if_f c2 hf
    refine lv_iload_n hx hb dX5_handOver_7 rfl (lv_at hl 2 rfl) ?_
    refine lv_bipush (v := 10) hx hb dX5_handOver_8 (by decide) ?_
    refine lv_icmp_eq (tgt := 18) hx hb dX5_handOver_10 (by decide) (fun c10 => ?_) (fun c10 => ?_)
    · have hf := if_t c10 hf
      exact B18 _ _ hf H locs hP hD hS ls (lv_sub hl [0, 1] rfl)
    · have hf := if_f c10 hf
      refine lv_iload_n hx hb dX5_handOver_13 rfl (lv_at hl 2 rfl) ?_
      refine lv_iload_n hx hb dX5_handOver_14 rfl (lv_at hl 1 rfl) ?_
      refine lv_icmp_ne (tgt := 30) hx hb dX5_handOver_15 (by decide) (fun c15 => ?_) (fun c15 => ?_)
      · have hf := if_f c15 hf
        refine lv_aload_n hx hb dX5_handOver_30 rfl (lv_at hl 0 rfl) ?_
        refine ld_f S iX5 hK hP 0 8 (.ref (A 3)) (gX5_0 _ _ _ _ _ _ _ _ _ _) rfl (by decide) k56 rfl rfl dX5_handOver_31 ?_
        refine lv_iload_n hx hb dX5_handOver_34 rfl (lv_at hl 1 rfl) ?_
        refine lv_dup2_11 hx hb dX5_handOver_35 rfl rfl ?_
        obtain ⟨c36, hf⟩ := ck_t hf
        refine va_iald (f := cs 8) hx hb hK hP 3 0 (gX5_3 _ _ _ _ _ _ _ _ _ _) rfl (inb_in c36) dX5_handOver_36 ?_
        refine lv_iconst (v := 1) hx hb dX5_handOver_37 (by decide) ?_
        refine lv_iadd hx hb dX5_handOver_38 ?_
        obtain ⟨c39, hf⟩ := ck_t hf
        refine st_i hx hb hK hP hD hS 3 0 (sX5_3 _ _ _ _ _ _ _ _ _ _ _ _) (gX5_3 _ _ _ _ _ _ _ _ _ _) rfl c39 dX5_handOver_39 (fun H locs hP hD hS => ?_)
        refine lv_iconst (v := 0) hx hb dX5_handOver_40 (by decide) ?_
        exact hR _ ls H locs _ _ (congrArg (fun q => q.1) (Option.some.inj hf)) (congrArg (fun q => (wX5 cI cZ A (q.2) cw ct cu cl cb cp)) (Option.some.inj hf)) rfl dX5_handOver_41 hP hD hS
      · have hf := if_t c15 hf
        exact B18 _ _ hf H locs hP hD hS ls (lv_sub hl [0, 1] rfl)
  · have hf := if_t c2 hf
    refine lv_iconst (v := 0) hx hb dX5_handOver_5 (by decide) ?_
    exact hR _ ls H locs _ _ (congrArg (fun q => q.1) (Option.some.inj hf)) (congrArg (fun q => (wX5 cI cZ A (q.2) cw ct cu cl cb cp)) (Option.some.inj hf)) rfl dX5_handOver_6 hP hD hS
set_option maxHeartbeats 4000000 in
set_option maxRecDepth 100000 in
theorem mX5_goOut (l : Launch) (D : va_G) (cI cZ : ClassId) (A : Nat → Nat)  (cs : St) (cw : St) (ct : St) (cu : St) (cl : St) (cb : St) (cp : St) (x1 : Int32) (x2 : Int32) (x3 : Int32) (x4 : Int32) (sz : Nat) (res : Int32 × St × St) (hf : fX5_goOut cs cw cl cp x1 x2 x3 x4 = some res) : Met l yX5_goOut wsX5_goOut ({ frames := 2, cells := 0, slots := 0, locals := 42 }) (mP D (tysX cI cZ) [.ref (A 0), .int x1, .int x2, .int x3, .int x4] (wX5 cI cZ A cs cw ct cu cl cb cp) sz) (mQi D res.1 (wX5 cI cZ A cs cw ct cu cl cb cp) (wX5 cI cZ A (res.2.1) cw ct cu cl cb (res.2.2)) sz) 0 0 (va_A (wX5 cI cZ A cs cw ct cu cl cb cp) sz) := by
  refine mkM_i (cc := cX5_goOut) (maxL := 9) (own := RX5) (by decide +kernel) rfl rfl (Nat.le_of_ble_eq_true rfl) ?_
  intro p e s m args below meth c A0 Q S hK hG hA hR
  obtain ⟨hx, hb, hml, hown, hts⟩ := id S
  have k31 := hts (.fieldLink RX5 31 "SwitchFloor" "lanes" "LSwitchFloor$Lanes;") (by decide +kernel)
  have iX5 : ∀ w ∈ wsX50, w ∈ wsX5_goOut := by decide +kernel
  have k12 := hts (.fieldLink RX5 12 "SwitchFloor" "wiring" "LSwitchFloor$Wiring;") (by decide +kernel)
  have k99 := hts (.fieldLink RX5 99 "SwitchFloor$Wiring" "peer" "[I") (by decide +kernel)
  have iX4 : ∀ w ∈ wsX40, w ∈ wsX5_goOut := by decide +kernel
  have k45 := hts (.fieldLink RX5 45 "SwitchFloor" "steps" "LSwitchFloor$Steps;") (by decide +kernel)
  have k310 := hts (.fieldLink RX5 310 "SwitchFloor$Steps" "hops" "[I") (by decide +kernel)
  have iX1 : ∀ w ∈ wsX10, w ∈ wsX5_goOut := by decide +kernel
  have k311 := hts (.fieldLink RX5 311 "SwitchFloor$Steps" "second" "[I") (by decide +kernel)
  have k245 := hts (.fieldLink RX5 245 "SwitchFloor$Wiring" "house" "[I") (by decide +kernel)
  intro H locs hP hD hS ls hl
  have hl : lv_has ls 9 [(0, .ref (A 0)), (1, .int x1), (2, .int x2), (3, .int x3), (4, .int x4)] := hl
  unfold fX5_goOut at hf
  refine lv_aload_n hx hb dX5_goOut_0 rfl (lv_at hl 0 rfl) ?_
  refine ld_f S iX5 hK hP 0 3 (.ref (A 41)) (gX5_0 _ _ _ _ _ _ _ _ _ _) rfl (by decide) k31 rfl rfl dX5_goOut_1 ?_
  refine lv_iload_n hx hb dX5_goOut_4 rfl (lv_at hl 1 rfl) ?_
  refine lv_iload_n hx hb dX5_goOut_5 rfl (lv_at hl 3 rfl) ?_
  obtain ⟨q6, h6, hf⟩ := bd_t hf
  refine cl_i (va_runV (As := [.int x1, .int x3]) (rest := []) S (mX0_carries l D cI cZ (aX5_X0_4 A) cl x1 x3 H.size q6 h6) (cwV 2 hts gX5_goOut_X0_carries rfl rfl rfl (by decide +kernel) ⟨Nat.le_of_ble_eq_true rfl, Nat.le_of_ble_eq_true rfl⟩) (mP_V (ci := 0) (cutX5_X0_4 _ _ _ _ _ _ _ _ _ _ st0) hP hD hK hG rfl (gX0_0 _ _ _ _)) rfl rfl hl.1 rfl (lv_room (Nat.le_of_ble_eq_true rfl)) dX5_goOut_6 ⟨Nat.le_refl _, Nat.le_refl _⟩) (cutX5_X0_4 _ _ _ _ _ _ _ _ _ _ _) hP hD hS hA (fun H locs hP hD hS => ?_)
  refine lv_if_ne (tgt := 14) hx hb dX5_goOut_9 (by decide) (fun c9 => ?_) (fun c9 => ?_)
  · have hf := if_f c9 hf
    refine lv_aload_n hx hb dX5_goOut_14 rfl (lv_at hl 0 rfl) ?_
    refine ld_f S iX5 hK hP 0 0 (.ref (A 4)) (gX5_0 _ _ _ _ _ _ _ _ _ _) rfl (by decide) k12 rfl rfl dX5_goOut_15 ?_
    refine ld_f S iX4 hK hP 4 0 (.ref (A 5)) (gX5_4 _ _ _ _ _ _ _ _ _ _) rfl (by decide) k99 rfl rfl dX5_goOut_18 ?_
    refine lv_iload_n hx hb dX5_goOut_21 rfl (lv_at hl 1 rfl) ?_
    obtain ⟨c22, hf⟩ := ck_t hf
    refine va_iald (f := cw 0) hx hb hK hP 5 0 (gX5_5 _ _ _ _ _ _ _ _ _ _) rfl (inb_in c22) dX5_goOut_22 ?_
    refine lv_istore (lv' := [(5, .int (cw 0 x1.toNatClampNeg)), (0, .ref (A 0)), (1, .int x1), (2, .int x2), (3, .int x3), (4, .int x4)]) hx hb dX5_goOut_23 hl (by decide) rfl (fun ls hl => ?_)
    refine lv_iload hx hb dX5_goOut_25 (lv_at hl 0 rfl) ?_
    refine lv_iconst (v := (-1)) hx hb dX5_goOut_27 (by decide) ?_
    refine lv_icmp_ne (tgt := 47) hx hb dX5_goOut_28 (by decide) (fun c28 => ?_) (fun c28 => ?_)
    · have hf := if_f c28 hf
      refine lv_aload_n hx hb dX5_goOut_47 rfl (lv_at hl 1 rfl) ?_
      refine ld_f S iX5 hK hP 0 5 (.ref (A 48)) (gX5_0 _ _ _ _ _ _ _ _ _ _) rfl (by decide) k45 rfl rfl dX5_goOut_48 ?_
      refine ld_f S iX1 hK hP 48 3 (.ref (A 52)) (gX5_48 _ _ _ _ _ _ _ _ _ _) rfl (by decide) k310 rfl rfl dX5_goOut_51 ?_
      refine lv_iload_n hx hb dX5_goOut_54 rfl (lv_at hl 3 rfl) ?_
      obtain ⟨c55, hf⟩ := ck_t hf
      refine va_iald (f := cp 3) hx hb hK hP 52 0 (gX5_52 _ _ _ _ _ _ _ _ _ _) rfl (inb_in c55) dX5_goOut_55 ?_
      refine lv_iconst (v := 1) hx hb dX5_goOut_56 (by decide) ?_
      refine lv_iadd hx hb dX5_goOut_57 ?_
      refine lv_istore (lv' := [(6, .int ((cp 3 x2.toNatClampNeg) + 1)), (5, .int (cw 0 x1.toNatClampNeg)), (0, .ref (A 0)), (1, .int x1), (2, .int x2), (3, .int x3), (4, .int x4)]) hx hb dX5_goOut_58 hl (by decide) rfl (fun ls hl => ?_)
      refine lv_iload hx hb dX5_goOut_60 (lv_at hl 0 rfl) ?_
      refine lv_bipush (v := 12) hx hb dX5_goOut_62 (by decide) ?_
      refine lv_icmp_le (tgt := 69) hx hb dX5_goOut_64 (by decide) (fun c64 => ?_) (fun c64 => ?_)
      · have hf := if_t c64 hf
        refine lv_aload_n hx hb dX5_goOut_69 rfl (lv_at hl 2 rfl) ?_
        refine ld_f S iX5 hK hP 0 5 (.ref (A 48)) (gX5_0 _ _ _ _ _ _ _ _ _ _) rfl (by decide) k45 rfl rfl dX5_goOut_70 ?_
        refine ld_f S iX1 hK hP 48 2 (.ref (A 51)) (gX5_48 _ _ _ _ _ _ _ _ _ _) rfl (by decide) k311 rfl rfl dX5_goOut_73 ?_
        refine lv_iload_n hx hb dX5_goOut_76 rfl (lv_at hl 4 rfl) ?_
        obtain ⟨c77, hf⟩ := ck_t hf
        refine va_iald (f := cp 2) hx hb hK hP 51 0 (gX5_51 _ _ _ _ _ _ _ _ _ _) rfl (inb_in c77) dX5_goOut_77 ?_
        refine lv_istore (lv' := [(7, .int (cp 2 x2.toNatClampNeg)), (6, .int ((cp 3 x2.toNatClampNeg) + 1)), (5, .int (cw 0 x1.toNatClampNeg)), (0, .ref (A 0)), (1, .int x1), (2, .int x2), (3, .int x3), (4, .int x4)]) hx hb dX5_goOut_78 hl (by decide) rfl (fun ls hl => ?_)
        refine lv_aload_n hx hb dX5_goOut_80 rfl (lv_at hl 3 rfl) ?_
        refine ld_f S iX5 hK hP 0 3 (.ref (A 41)) (gX5_0 _ _ _ _ _ _ _ _ _ _) rfl (by decide) k31 rfl rfl dX5_goOut_81 ?_
        refine lv_iload_n hx hb dX5_goOut_84 rfl (lv_at hl 4 rfl) ?_
        refine lv_iload_n hx hb dX5_goOut_85 rfl (lv_at hl 6 rfl) ?_
        obtain ⟨q86, h86, hf⟩ := bd_t hf
        refine cl_i (va_runV (As := [.int x1, .int x3]) (rest := []) S (mX0_tagOut l D cI cZ (aX5_X0_4 A) cl x1 x3 H.size q86 h86) (cwV 2 hts gX5_goOut_X0_tagOut rfl rfl rfl (by decide +kernel) ⟨Nat.le_of_ble_eq_true rfl, Nat.le_of_ble_eq_true rfl⟩) (mP_V (ci := 0) (cutX5_X0_4 _ _ _ _ _ _ _ _ _ _ st0) hP hD hK hG rfl (gX0_0 _ _ _ _)) rfl rfl hl.1 rfl (lv_room (Nat.le_of_ble_eq_true rfl)) dX5_goOut_86 ⟨Nat.le_refl _, Nat.le_refl _⟩) (cutX5_X0_4 _ _ _ _ _ _ _ _ _ _ _) hP hD hS hA (fun H locs hP hD hS => ?_)
        refine lv_istore (lv' := [(8, .int q86), (7, .int (cp 2 x2.toNatClampNeg)), (6, .int ((cp 3 x2.toNatClampNeg) + 1)), (5, .int (cw 0 x1.toNatClampNeg)), (0, .ref (A 0)), (1, .int x1), (2, .int x2), (3, .int x3), (4, .int x4)]) hx hb dX5_goOut_89 hl (by decide) rfl (fun ls hl => ?_)
        refine lv_iload hx hb dX5_goOut_91 (lv_at hl 0 rfl) ?_
        refine lv_if_ne (tgt := 113) hx hb dX5_goOut_93 (by decide) (fun c93 => ?_) (fun c93 => ?_)
        · have hf := if_f c93 hf
          refine lv_aload_n hx hb dX5_goOut_113 rfl (lv_at hl 4 rfl) ?_
          refine ld_f S iX5 hK hP 0 5 (.ref (A 48)) (gX5_0 _ _ _ _ _ _ _ _ _ _) rfl (by decide) k45 rfl rfl dX5_goOut_114 ?_
          refine lv_iload hx hb dX5_goOut_117 (lv_at hl 3 rfl) ?_
          refine lv_iload hx hb dX5_goOut_119 (lv_at hl 0 rfl) ?_
          refine lv_iload hx hb dX5_goOut_121 (lv_at hl 1 rfl) ?_
          refine lv_iload hx hb dX5_goOut_123 (lv_at hl 2 rfl) ?_
          obtain ⟨q125, h125, hf⟩ := bd_t hf
          refine cl_v (va_runV (As := [.int (cw 0 x1.toNatClampNeg), .int q86, .int (cp 2 x2.toNatClampNeg), .int ((cp 3 x2.toNatClampNeg) + 1)]) (rest := []) S (mX1_add l D cI cZ (aX5_X1_6 A) cp (cw 0 x1.toNatClampNeg) q86 (cp 2 x2.toNatClampNeg) ((cp 3 x2.toNatClampNeg) + 1) H.size q125 h125) (cwV 4 hts gX5_goOut_X1_add rfl rfl rfl (by decide +kernel) ⟨Nat.le_of_ble_eq_true rfl, Nat.le_of_ble_eq_true rfl⟩) (mP_V (ci := 1) (cutX5_X1_6 _ _ _ _ _ _ _ _ _ _ st0) hP hD hK hG rfl (gX1_0 _ _ _ _)) rfl rfl hl.1 rfl (lv_room (Nat.le_of_ble_eq_true rfl)) dX5_goOut_125 ⟨Nat.le_refl _, Nat.le_refl _⟩) (cutX5_X1_6 _ _ _ _ _ _ _ _ _ _ _) hP hD hS hA (fun H locs hP hD hS => ?_)
          refine lv_iconst (v := 0) hx hb dX5_goOut_128 (by decide) ?_
          exact hR _ ls H locs _ _ (congrArg (fun q => q.1) (Option.some.inj hf)) (congrArg (fun q => (wX5 cI cZ A (q.2.1) cw ct cu cl cb (q.2.2))) (Option.some.inj hf)) rfl dX5_goOut_129 hP hD hS
        · have hf := if_t c93 hf
          refine lv_aload_n hx hb dX5_goOut_96 rfl (lv_at hl 4 rfl) ?_
          refine ld_f S iX5 hK hP 0 5 (.ref (A 48)) (gX5_0 _ _ _ _ _ _ _ _ _ _) rfl (by decide) k45 rfl rfl dX5_goOut_97 ?_
          refine lv_iload hx hb dX5_goOut_100 (lv_at hl 3 rfl) ?_
          refine lv_iload hx hb dX5_goOut_102 (lv_at hl 1 rfl) ?_
          refine lv_iconst (v := 0) hx hb dX5_goOut_104 (by decide) ?_
          refine lv_iload hx hb dX5_goOut_105 (lv_at hl 2 rfl) ?_
          obtain ⟨q107, h107, hf⟩ := bd_t hf
          refine cl_v (va_runV (As := [.int (cw 0 x1.toNatClampNeg), .int (cp 2 x2.toNatClampNeg), .int 0, .int ((cp 3 x2.toNatClampNeg) + 1)]) (rest := []) S (mX1_add l D cI cZ (aX5_X1_6 A) cp (cw 0 x1.toNatClampNeg) (cp 2 x2.toNatClampNeg) 0 ((cp 3 x2.toNatClampNeg) + 1) H.size q107 h107) (cwV 4 hts gX5_goOut_X1_add rfl rfl rfl (by decide +kernel) ⟨Nat.le_of_ble_eq_true rfl, Nat.le_of_ble_eq_true rfl⟩) (mP_V (ci := 1) (cutX5_X1_6 _ _ _ _ _ _ _ _ _ _ st0) hP hD hK hG rfl (gX1_0 _ _ _ _)) rfl rfl hl.1 rfl (lv_room (Nat.le_of_ble_eq_true rfl)) dX5_goOut_107 ⟨Nat.le_refl _, Nat.le_refl _⟩) (cutX5_X1_6 _ _ _ _ _ _ _ _ _ _ _) hP hD hS hA (fun H locs hP hD hS => ?_)
          refine lv_goto (tgt := 128) hx hb dX5_goOut_110 (by decide) ?_
          refine lv_iconst (v := 0) hx hb dX5_goOut_128 (by decide) ?_
          exact hR _ ls H locs _ _ (congrArg (fun q => q.1) (Option.some.inj hf)) (congrArg (fun q => (wX5 cI cZ A (q.2.1) cw ct cu cl cb (q.2.2))) (Option.some.inj hf)) rfl dX5_goOut_129 hP hD hS
      · have hf := if_f c64 hf
        refine lv_iconst (v := 0) hx hb dX5_goOut_67 (by decide) ?_
        exact hR _ ls H locs _ _ (congrArg (fun q => q.1) (Option.some.inj hf)) (congrArg (fun q => (wX5 cI cZ A (q.2.1) cw ct cu cl cb (q.2.2))) (Option.some.inj hf)) rfl dX5_goOut_68 hP hD hS
    · have hf := if_t c28 hf
      refine lv_aload_n hx hb dX5_goOut_31 rfl (lv_at hl 1 rfl) ?_
      refine lv_aload_n hx hb dX5_goOut_32 rfl (lv_at hl 1 rfl) ?_
      refine ld_f S iX5 hK hP 0 0 (.ref (A 4)) (gX5_0 _ _ _ _ _ _ _ _ _ _) rfl (by decide) k12 rfl rfl dX5_goOut_33 ?_
      refine ld_f S iX4 hK hP 4 2 (.ref (A 7)) (gX5_4 _ _ _ _ _ _ _ _ _ _) rfl (by decide) k245 rfl rfl dX5_goOut_36 ?_
      refine lv_iload_n hx hb dX5_goOut_39 rfl (lv_at hl 2 rfl) ?_
      obtain ⟨c40, hf⟩ := ck_t hf
      refine va_iald (f := cw 2) hx hb hK hP 7 0 (gX5_7 _ _ _ _ _ _ _ _ _ _) rfl (inb_in c40) dX5_goOut_40 ?_
      refine lv_iload hx hb dX5_goOut_41 (lv_at hl 5 rfl) ?_
      obtain ⟨q43, h43, hf⟩ := bd_t hf
      refine cl_i (va_runV (As := [.int (cw 2 x1.toNatClampNeg), .int x4]) (rest := []) S (mX5_handOver l D cI cZ A cs cw ct cu cl cb cp (cw 2 x1.toNatClampNeg) x4 H.size q43 h43) (cwV 2 hts gX5_goOut_X5_handOver rfl rfl rfl (by decide +kernel) ⟨Nat.le_of_ble_eq_true rfl, Nat.le_of_ble_eq_true rfl⟩) (mP_V (ci := 5) (Cut.self _ []) hP hD hK hG rfl (gX5_0 _ _ _ _ _ _ _ _ _ _)) rfl rfl hl.1 rfl (lv_room (Nat.le_of_ble_eq_true rfl)) dX5_goOut_43 ⟨Nat.le_refl _, Nat.le_refl _⟩) (Cut.self _ _) hP hD hS hA (fun H locs hP hD hS => ?_)
      exact hR _ ls H locs _ _ (congrArg (fun q => q.1) (Option.some.inj hf)) (congrArg (fun q => (wX5 cI cZ A (q.2.1) cw ct cu cl cb (q.2.2))) (Option.some.inj hf)) rfl dX5_goOut_46 hP hD hS
  · have hf := if_t c9 hf
    refine lv_iconst (v := 0) hx hb dX5_goOut_12 (by decide) ?_
    exact hR _ ls H locs _ _ (congrArg (fun q => q.1) (Option.some.inj hf)) (congrArg (fun q => (wX5 cI cZ A (q.2.1) cw ct cu cl cb (q.2.2))) (Option.some.inj hf)) rfl dX5_goOut_13 hP hD hS
set_option maxHeartbeats 4000000 in
set_option maxRecDepth 100000 in
theorem mX5_flood (l : Launch) (D : va_G) (cI cZ : ClassId) (A : Nat → Nat)  (cs : St) (cw : St) (ct : St) (cu : St) (cl : St) (cb : St) (cp : St) (x1 : Int32) (x2 : Int32) (x3 : Int32) (sz : Nat) (res : Int32 × St × St × St × St) (hf : fX5_flood cs cw ct cl cb cp x1 x2 x3 = some res) : Met l yX5_flood wsX5_flood ({ frames := 3, cells := 0, slots := 0, locals := 70 }) (mP D (tysX cI cZ) [.ref (A 0), .int x1, .int x2, .int x3] (wX5 cI cZ A cs cw ct cu cl cb cp) sz) (mQi D res.1 (wX5 cI cZ A cs cw ct cu cl cb cp) (wX5 cI cZ A (res.2.1) cw (res.2.2.1) cu cl (res.2.2.2.1) (res.2.2.2.2)) sz) 0 0 (va_A (wX5 cI cZ A cs cw ct cu cl cb cp) sz) := by
  refine mkM_i (cc := cX5_flood) (maxL := 8) (own := RX5) (by decide +kernel) rfl rfl (Nat.le_of_ble_eq_true rfl) ?_
  intro p e s m args below meth c A0 Q S hK hG hA hR
  obtain ⟨hx, hb, hml, hown, hts⟩ := id S
  have k45 := hts (.fieldLink RX5 45 "SwitchFloor" "steps" "LSwitchFloor$Steps;") (by decide +kernel)
  have iX5 : ∀ w ∈ wsX50, w ∈ wsX5_flood := by decide +kernel
  have k291 := hts (.fieldLink RX5 291 "SwitchFloor$Steps" "spot" "[I") (by decide +kernel)
  have iX1 : ∀ w ∈ wsX10, w ∈ wsX5_flood := by decide +kernel
  have k49 := hts (.fieldLink RX5 49 "SwitchFloor" "floods" "[I") (by decide +kernel)
  have k59 := hts (.fieldLink RX5 59 "SwitchFloor" "floodLimit" "I") (by decide +kernel)
  have k21 := hts (.fieldLink RX5 21 "SwitchFloor" "tree" "LSwitchFloor$Tree;") (by decide +kernel)
  have k198 := hts (.fieldLink RX5 198 "SwitchFloor$Tree" "open" "[Z") (by decide +kernel)
  have iX3 : ∀ w ∈ wsX30, w ∈ wsX5_flood := by decide +kernel
  have k160 := hts (.fieldLink RX5 160 "SwitchFloor$Tree" "beats" "I") (by decide +kernel)
  have B69 : ∀ (ct : St) (cb : St) (x1 : Int32) (x2 : Int32) (x3 : Int32) (x4 : Int32) (x5 : Int32) (cs : St) (cp : St) (x6 : Int32) (x7 : Int32), fX5_flood_L69 cw ct cl cb x1 x2 x3 x4 x5 cs cp x6 x7 = some res → Bk p l e ({ frames := 3, cells := 0, slots := 0, locals := 70 }) s m args below meth c Q A0 D 8 0 0 (wX5 cI cZ A cs cw ct cu cl cb cp) [(0, .ref (A 0)), (1, .int x1), (2, .int x2), (3, .int x3), (4, .int x4), (5, .int x5), (6, .int x6), (7, .int x7)] 69 [] := by
    intro ct cb x1 x2 x3 x4 x5 cs cp x6 x7 hf
    refine loop_ind (step := (fun k a => fX5_flood_S69 k cw ct cl cb x1 x2 x3 x4 x5 (a.1) (a.2.1) (a.2.2.1) (a.2.2.2))) (fun a => Bk p l e ({ frames := 3, cells := 0, slots := 0, locals := 70 }) s m args below meth c Q A0 D 8 0 0 (wX5 cI cZ A (a.1) cw ct cu cl cb (a.2.1)) [(0, .ref (A 0)), (1, .int x1), (2, .int x2), (3, .int x3), (4, .int x4), (5, .int x5), (6, .int (a.2.2.1)), (7, .int (a.2.2.2))] 69 []) ?_ _ _ hf
    clear hf
    intro k69 hk69 a hf
    obtain ⟨cs_, cp_, x6_, x7_⟩ := a
    clear cs cp x6 x7
    obtain ⟨cs, e_⟩ : ∃ z, z = cs_ := ⟨_, rfl⟩
    subst e_
    obtain ⟨cp, e_⟩ : ∃ z, z = cp_ := ⟨_, rfl⟩
    subst e_
    obtain ⟨x6, e_⟩ : ∃ z, z = x6_ := ⟨_, rfl⟩
    subst e_
    obtain ⟨x7, e_⟩ : ∃ z, z = x7_ := ⟨_, rfl⟩
    subst e_
    have hf : fX5_flood_S69 k69 cw ct cl cb x1 x2 x3 x4 x5 cs cp x6 x7 = some res := hf
    show Bk p l e ({ frames := 3, cells := 0, slots := 0, locals := 70 }) s m args below meth c Q A0 D 8 0 0 (wX5 cI cZ A cs cw ct cu cl cb cp) [(0, .ref (A 0)), (1, .int x1), (2, .int x2), (3, .int x3), (4, .int x4), (5, .int x5), (6, .int x6), (7, .int x7)] 69 []
    unfold fX5_flood_S69 at hf
    intro H locs hP hD hS ls hl
    refine lv_iload hx hb dX5_flood_69 (lv_at hl 7 rfl) ?_
    refine lv_iload hx hb dX5_flood_71 (lv_at hl 5 rfl) ?_
    refine lv_iconst (v := 5) hx hb dX5_flood_73 (by decide) ?_
    refine lv_iadd hx hb dX5_flood_74 ?_
    refine lv_icmp_ge (tgt := 118) hx hb dX5_flood_75 (by decide) (fun c75 => ?_) (fun c75 => ?_)
    · have hf := if_t c75 hf
      refine lv_iload hx hb dX5_flood_118 (lv_at hl 6 rfl) ?_
      exact hR _ ls H locs _ _ (congrArg (fun q => q.1) (Option.some.inj hf)) (congrArg (fun q => (wX5 cI cZ A (q.2.1) cw (q.2.2.1) cu cl (q.2.2.2.1) (q.2.2.2.2))) (Option.some.inj hf)) rfl dX5_flood_120 hP hD hS
    · have hf := if_f c75 hf
      refine lv_iload hx hb dX5_flood_78 (lv_at hl 7 rfl) ?_
      refine lv_iload hx hb dX5_flood_80 (lv_at hl 4 rfl) ?_
      refine lv_icmp_eq (tgt := 112) hx hb dX5_flood_82 (by decide) (fun c82 => ?_) (fun c82 => ?_)
      · have hf := if_t c82 hf
        refine lv_iinc (v := x7 + 1) (lv' := [(7, .int (x7 + 1)), (0, .ref (A 0)), (1, .int x1), (2, .int x2), (3, .int x3), (4, .int x4), (5, .int x5), (6, .int x6)]) hx hb dX5_flood_112 hl (k := 7) rfl rfl (by decide) rfl (fun ls hl => ?_)
        refine lv_goto (tgt := 69) hx hb dX5_flood_115 (by decide) ?_
        exact hk69 _ hf H locs hP hD hS ls (lv_sub hl [1, 2, 3, 4, 5, 6, 7, 0] rfl)
      · have hf := if_f c82 hf
        refine lv_aload_n hx hb dX5_flood_85 rfl (lv_at hl 0 rfl) ?_
        refine ld_f S iX5 hK hP 0 1 (.ref (A 11)) (gX5_0 _ _ _ _ _ _ _ _ _ _) rfl (by decide) k21 rfl rfl dX5_flood_86 ?_
        refine ld_f S iX3 hK hP 11 6 (.ref (A 17)) (gX5_11 _ _ _ _ _ _ _ _ _ _) rfl (by decide) k198 rfl rfl dX5_flood_89 ?_
        refine lv_iload hx hb dX5_flood_92 (lv_at hl 7 rfl) ?_
        obtain ⟨c94, hf⟩ := ck_t hf
        refine va_zald (f := ct 6) hx hb hK hP 17 1 (gX5_17 _ _ _ _ _ _ _ _ _ _) rfl (inb_in c94) dX5_flood_94 ?_
        refine lv_if_eq (tgt := 112) hx hb dX5_flood_95 (by decide) (fun c95 => ?_) (fun c95 => ?_)
        · have hf := if_t c95 hf
          refine lv_iinc (v := x7 + 1) (lv' := [(7, .int (x7 + 1)), (0, .ref (A 0)), (1, .int x1), (2, .int x2), (3, .int x3), (4, .int x4), (5, .int x5), (6, .int x6)]) hx hb dX5_flood_112 hl (k := 7) rfl rfl (by decide) rfl (fun ls hl => ?_)
          refine lv_goto (tgt := 69) hx hb dX5_flood_115 (by decide) ?_
          exact hk69 _ hf H locs hP hD hS ls (lv_sub hl [1, 2, 3, 4, 5, 6, 7, 0] rfl)
        · have hf := if_f c95 hf
          refine lv_iload hx hb dX5_flood_98 (lv_at hl 6 rfl) ?_
          refine lv_aload_n hx hb dX5_flood_100 rfl (lv_at hl 0 rfl) ?_
          refine lv_iload hx hb dX5_flood_101 (lv_at hl 7 rfl) ?_
          refine lv_iload_n hx hb dX5_flood_103 rfl (lv_at hl 1 rfl) ?_
          refine lv_iload_n hx hb dX5_flood_104 rfl (lv_at hl 2 rfl) ?_
          refine lv_iload_n hx hb dX5_flood_105 rfl (lv_at hl 3 rfl) ?_
          obtain ⟨q106, h106, hf⟩ := bd_t hf
          refine cl_i (va_runV (As := [.int x7, .int x1, .int x2, .int x3]) (rest := [.int x6]) S (mX5_goOut l D cI cZ A cs cw ct cu cl cb cp x7 x1 x2 x3 H.size q106 h106) (cwV 4 hts gX5_flood_X5_goOut rfl rfl rfl (by decide +kernel) ⟨Nat.le_of_ble_eq_true rfl, Nat.le_of_ble_eq_true rfl⟩) (mP_V (ci := 5) (Cut.self _ []) hP hD hK hG rfl (gX5_0 _ _ _ _ _ _ _ _ _ _)) rfl rfl hl.1 rfl (lv_room (Nat.le_of_ble_eq_true rfl)) dX5_flood_106 ⟨Nat.le_refl _, Nat.le_refl _⟩) (Cut.self _ _) hP hD hS hA (fun H locs hP hD hS => ?_)
          refine lv_iadd hx hb dX5_flood_109 ?_
          refine lv_istore (lv' := [(6, .int (x6 + q106.1)), (0, .ref (A 0)), (1, .int x1), (2, .int x2), (3, .int x3), (4, .int x4), (5, .int x5), (7, .int x7)]) hx hb dX5_flood_110 hl (by decide) rfl (fun ls hl => ?_)
          refine lv_iinc (v := x7 + 1) (lv' := [(7, .int (x7 + 1)), (6, .int (x6 + q106.1)), (0, .ref (A 0)), (1, .int x1), (2, .int x2), (3, .int x3), (4, .int x4), (5, .int x5)]) hx hb dX5_flood_112 hl (k := 7) rfl rfl (by decide) rfl (fun ls hl => ?_)
          refine lv_goto (tgt := 69) hx hb dX5_flood_115 (by decide) ?_
          exact hk69 _ hf H locs hP hD hS ls (lv_sub hl [2, 3, 4, 5, 6, 7, 1, 0] rfl)
  intro H locs hP hD hS ls hl
  have hl : lv_has ls 8 [(0, .ref (A 0)), (1, .int x1), (2, .int x2), (3, .int x3)] := hl
  unfold fX5_flood at hf
  refine lv_aload_n hx hb dX5_flood_0 rfl (lv_at hl 0 rfl) ?_
  refine ld_f S iX5 hK hP 0 5 (.ref (A 48)) (gX5_0 _ _ _ _ _ _ _ _ _ _) rfl (by decide) k45 rfl rfl dX5_flood_1 ?_
  refine ld_f S iX1 hK hP 48 0 (.ref (A 49)) (gX5_48 _ _ _ _ _ _ _ _ _ _) rfl (by decide) k291 rfl rfl dX5_flood_4 ?_
  refine lv_iload_n hx hb dX5_flood_7 rfl (lv_at hl 1 rfl) ?_
  obtain ⟨c8, hf⟩ := ck_t hf
  refine va_iald (f := cp 0) hx hb hK hP 49 0 (gX5_49 _ _ _ _ _ _ _ _ _ _) rfl (inb_in c8) dX5_flood_8 ?_
  refine lv_istore (lv' := [(4, .int (cp 0 x1.toNatClampNeg)), (0, .ref (A 0)), (1, .int x1), (2, .int x2), (3, .int x3)]) hx hb dX5_flood_9 hl (by decide) rfl (fun ls hl => ?_)
  refine lv_aload_n hx hb dX5_flood_11 rfl (lv_at hl 1 rfl) ?_
  refine ld_f S iX5 hK hP 0 6 (.ref (A 1)) (gX5_0 _ _ _ _ _ _ _ _ _ _) rfl (by decide) k49 rfl rfl dX5_flood_12 ?_
  refine lv_iload hx hb dX5_flood_15 (lv_at hl 0 rfl) ?_
  refine lv_dup2_11 hx hb dX5_flood_17 rfl rfl ?_
  obtain ⟨c18, hf⟩ := ck_t hf
  refine va_iald (f := cs 6) hx hb hK hP 1 0 (gX5_1 _ _ _ _ _ _ _ _ _ _) rfl (inb_in c18) dX5_flood_18 ?_
  refine lv_iconst (v := 1) hx hb dX5_flood_19 (by decide) ?_
  refine lv_iadd hx hb dX5_flood_20 ?_
  obtain ⟨c21, hf⟩ := ck_t hf
  refine st_i hx hb hK hP hD hS 1 0 (sX5_1 _ _ _ _ _ _ _ _ _ _ _ _) (gX5_1 _ _ _ _ _ _ _ _ _ _) rfl c21 dX5_flood_21 (fun H locs hP hD hS => ?_)
  refine lv_aload_n hx hb dX5_flood_22 rfl (lv_at hl 1 rfl) ?_
  refine ld_f S iX5 hK hP 0 6 (.ref (A 1)) (gX5_0 _ _ _ _ _ _ _ _ _ _) rfl (by decide) k49 rfl rfl dX5_flood_23 ?_
  refine lv_iload hx hb dX5_flood_26 (lv_at hl 0 rfl) ?_
  obtain ⟨c28, hf⟩ := ck_t hf
  refine va_iald (f := (aS cs 6 (cp 0 x1.toNatClampNeg) ((cs 6 (cp 0 x1.toNatClampNeg).toNatClampNeg) + 1)) 6) hx hb hK hP 1 0 (gX5_1 _ _ _ _ _ _ _ _ _ _) rfl (inb_in c28) dX5_flood_28 ?_
  refine lv_aload_n hx hb dX5_flood_29 rfl (lv_at hl 1 rfl) ?_
  refine ld_f S iX5 hK hP 0 9 (.int (cs 9 0)) (gX5_0 _ _ _ _ _ _ _ _ _ _) rfl (by decide) k59 rfl rfl dX5_flood_30 ?_
  refine lv_icmp_le (tgt := 53) hx hb dX5_flood_33 (by decide) (fun c33 => ?_) (fun c33 => ?_)
  · have hf := if_t c33 hf
    refine lv_iload hx hb dX5_flood_53 (lv_at hl 0 rfl) ?_
    refine lv_iload hx hb dX5_flood_55 (lv_at hl 0 rfl) ?_
    refine lv_iconst (v := 5) hx hb dX5_flood_57 (by decide) ?_
    refine lv_irem hx hb dX5_flood_58 (by decide) ?_
    refine lv_isub hx hb dX5_flood_59 ?_
    refine lv_istore (lv' := [(5, .int ((cp 0 x1.toNatClampNeg) - ((cp 0 x1.toNatClampNeg) - (cp 0 x1.toNatClampNeg) / 5 * 5))), (4, .int (cp 0 x1.toNatClampNeg)), (0, .ref (A 0)), (1, .int x1), (2, .int x2), (3, .int x3)]) hx hb dX5_flood_60 hl (by decide) rfl (fun ls hl => ?_)
    refine lv_iconst (v := 0) hx hb dX5_flood_62 (by decide) ?_
    refine lv_istore (lv' := [(6, .int 0), (5, .int ((cp 0 x1.toNatClampNeg) - ((cp 0 x1.toNatClampNeg) - (cp 0 x1.toNatClampNeg) / 5 * 5))), (4, .int (cp 0 x1.toNatClampNeg)), (0, .ref (A 0)), (1, .int x1), (2, .int x2), (3, .int x3)]) hx hb dX5_flood_63 hl (by decide) rfl (fun ls hl => ?_)
    refine lv_iload hx hb dX5_flood_65 (lv_at hl 1 rfl) ?_
    refine lv_istore (lv' := [(7, .int ((cp 0 x1.toNatClampNeg) - ((cp 0 x1.toNatClampNeg) - (cp 0 x1.toNatClampNeg) / 5 * 5))), (6, .int 0), (5, .int ((cp 0 x1.toNatClampNeg) - ((cp 0 x1.toNatClampNeg) - (cp 0 x1.toNatClampNeg) / 5 * 5))), (4, .int (cp 0 x1.toNatClampNeg)), (0, .ref (A 0)), (1, .int x1), (2, .int x2), (3, .int x3)]) hx hb dX5_flood_67 hl (by decide) rfl (fun ls hl => ?_)
    exact B69 _ _ _ _ _ _ _ _ _ _ _ hf H locs hP hD hS ls (lv_sub hl [4, 5, 6, 7, 3, 2, 1, 0] rfl)
  · have hf := if_f c33 hf
    refine lv_aload_n hx hb dX5_flood_36 rfl (lv_at hl 1 rfl) ?_
    refine lv_iload hx hb dX5_flood_37 (lv_at hl 0 rfl) ?_
    refine lv_aload_n hx hb dX5_flood_39 rfl (lv_at hl 1 rfl) ?_
    refine ld_f S iX5 hK hP 0 1 (.ref (A 11)) (gX5_0 _ _ _ _ _ _ _ _ _ _) rfl (by decide) k21 rfl rfl dX5_flood_40 ?_
    refine ld_f S iX3 hK hP 11 9 (.int (ct 9 0)) (gX5_11 _ _ _ _ _ _ _ _ _ _) rfl (by decide) k160 rfl rfl dX5_flood_43 ?_
    refine lv_iconst (v := 5) hx hb dX5_flood_46 (by decide) ?_
    refine lv_iadd hx hb dX5_flood_47 ?_
    obtain ⟨q48, h48, hf⟩ := bd_t hf
    refine cl_v (va_runV (As := [.int (cp 0 x1.toNatClampNeg), .int ((ct 9 0) + 5)]) (rest := []) S (mX5_shutUntil l D cI cZ A (aS cs 6 (cp 0 x1.toNatClampNeg) ((cs 6 (cp 0 x1.toNatClampNeg).toNatClampNeg) + 1)) cw ct cu cl cb cp (cp 0 x1.toNatClampNeg) ((ct 9 0) + 5) H.size q48 h48) (cwV 2 hts gX5_flood_X5_shutUntil rfl rfl rfl (by decide +kernel) ⟨Nat.le_of_ble_eq_true rfl, Nat.le_of_ble_eq_true rfl⟩) (mP_V (ci := 5) (Cut.self _ []) hP hD hK hG rfl (gX5_0 _ _ _ _ _ _ _ _ _ _)) rfl rfl hl.1 rfl (lv_room (Nat.le_of_ble_eq_true rfl)) dX5_flood_48 ⟨Nat.le_refl _, Nat.le_refl _⟩) (Cut.self _ _) hP hD hS hA (fun H locs hP hD hS => ?_)
    refine lv_iconst (v := 0) hx hb dX5_flood_51 (by decide) ?_
    exact hR _ ls H locs _ _ (congrArg (fun q => q.1) (Option.some.inj hf)) (congrArg (fun q => (wX5 cI cZ A (q.2.1) cw (q.2.2.1) cu cl (q.2.2.2.1) (q.2.2.2.2))) (Option.some.inj hf)) rfl dX5_flood_52 hP hD hS
set_option maxHeartbeats 4000000 in
set_option maxRecDepth 100000 in
theorem mX5_takeStep (l : Launch) (D : va_G) (cI cZ : ClassId) (A : Nat → Nat)  (cs : St) (cw : St) (ct : St) (cu : St) (cl : St) (cb : St) (cp : St) (x1 : Int32) (x2 : Int32) (x3 : Int32) (sz : Nat) (res : Int32 × St × St × St × St) (hf : fX5_takeStep cs cw ct cl cb cp x1 x2 x3 = some res) : Met l yX5_takeStep wsX5_takeStep ({ frames := 4, cells := 0, slots := 0, locals := 97 }) (mP D (tysX cI cZ) [.ref (A 0), .int x1, .int x2, .int x3] (wX5 cI cZ A cs cw ct cu cl cb cp) sz) (mQi D res.1 (wX5 cI cZ A cs cw ct cu cl cb cp) (wX5 cI cZ A (res.2.1) cw (res.2.2.1) cu cl (res.2.2.2.1) (res.2.2.2.2)) sz) 0 0 (va_A (wX5 cI cZ A cs cw ct cu cl cb cp) sz) := by
  refine mkM_i (cc := cX5_takeStep) (maxL := 9) (own := RX5) (by decide +kernel) rfl rfl (Nat.le_of_ble_eq_true rfl) ?_
  intro p e s m args below meth c A0 Q S hK hG hA hR
  obtain ⟨hx, hb, hml, hown, hts⟩ := id S
  have k45 := hts (.fieldLink RX5 45 "SwitchFloor" "steps" "LSwitchFloor$Steps;") (by decide +kernel)
  have iX5 : ∀ w ∈ wsX50, w ∈ wsX5_takeStep := by decide +kernel
  have k291 := hts (.fieldLink RX5 291 "SwitchFloor$Steps" "spot" "[I") (by decide +kernel)
  have iX1 : ∀ w ∈ wsX10, w ∈ wsX5_takeStep := by decide +kernel
  have k294 := hts (.fieldLink RX5 294 "SwitchFloor$Steps" "tag" "[I") (by decide +kernel)
  have k38 := hts (.fieldLink RX5 38 "SwitchFloor" "tables" "LSwitchFloor$Tables;") (by decide +kernel)
  have k21 := hts (.fieldLink RX5 21 "SwitchFloor" "tree" "LSwitchFloor$Tree;") (by decide +kernel)
  have k160 := hts (.fieldLink RX5 160 "SwitchFloor$Tree" "beats" "I") (by decide +kernel)
  have iX3 : ∀ w ∈ wsX30, w ∈ wsX5_takeStep := by decide +kernel
  have k198 := hts (.fieldLink RX5 198 "SwitchFloor$Tree" "open" "[Z") (by decide +kernel)
  have B108 : ∀ (cs : St) (ct : St) (cb : St) (cp : St) (x1 : Int32) (x3 : Int32) (x5 : Int32), fX5_takeStep_J108 cs cw ct cl cb cp x1 x3 x5 = some res → Bk p l e ({ frames := 4, cells := 0, slots := 0, locals := 97 }) s m args below meth c Q A0 D 9 0 0 (wX5 cI cZ A cs cw ct cu cl cb cp) [(0, .ref (A 0)), (1, .int x1), (3, .int x3), (5, .int x5)] 108 [] := by
    intro cs ct cb cp x1 x3 x5 hf
    unfold fX5_takeStep_J108 at hf
    intro H locs hP hD hS ls hl
    refine lv_aload_n hx hb dX5_takeStep_108 rfl (lv_at hl 0 rfl) ?_
    refine lv_iload_n hx hb dX5_takeStep_109 rfl (lv_at hl 1 rfl) ?_
    refine lv_iload hx hb dX5_takeStep_110 (lv_at hl 3 rfl) ?_
    refine lv_iload_n hx hb dX5_takeStep_112 rfl (lv_at hl 2 rfl) ?_
    obtain ⟨q113, h113, hf⟩ := bd_t hf
    refine cl_i (va_runV (As := [.int x1, .int x5, .int x3]) (rest := []) S (mX5_flood l D cI cZ A cs cw ct cu cl cb cp x1 x5 x3 H.size q113 h113) (cwV 3 hts gX5_takeStep_X5_flood rfl rfl rfl (by decide +kernel) ⟨Nat.le_of_ble_eq_true rfl, Nat.le_of_ble_eq_true rfl⟩) (mP_V (ci := 5) (Cut.self _ []) hP hD hK hG rfl (gX5_0 _ _ _ _ _ _ _ _ _ _)) rfl rfl hl.1 rfl (lv_room (Nat.le_of_ble_eq_true rfl)) dX5_takeStep_113 ⟨Nat.le_refl _, Nat.le_refl _⟩) (Cut.self _ _) hP hD hS hA (fun H locs hP hD hS => ?_)
    exact hR _ ls H locs _ _ (congrArg (fun q => q.1) (Option.some.inj hf)) (congrArg (fun q => (wX5 cI cZ A (q.2.1) cw (q.2.2.1) cu cl (q.2.2.2.1) (q.2.2.2.2))) (Option.some.inj hf)) rfl dX5_takeStep_116 hP hD hS
  have B82 : ∀ (cs : St) (ct : St) (cb : St) (cp : St) (x1 : Int32) (x3 : Int32) (x4 : Int32) (x5 : Int32) (x6 : Int32) (y0 : Int32), fX5_takeStep_J82 cs cw ct cl cb cp x1 x3 x4 x5 x6 y0 = some res → Bk p l e ({ frames := 4, cells := 0, slots := 0, locals := 97 }) s m args below meth c Q A0 D 9 0 0 (wX5 cI cZ A cs cw ct cu cl cb cp) [(0, .ref (A 0)), (1, .int x1), (3, .int x3), (4, .int x4), (5, .int x5), (6, .int x6)] 82 [.int y0] := by
    intro cs ct cb cp x1 x3 x4 x5 x6 y0 hf
    unfold fX5_takeStep_J82 at hf
    intro H locs hP hD hS ls hl
    refine lv_istore (lv' := [(7, .int y0), (0, .ref (A 0)), (1, .int x1), (3, .int x3), (4, .int x4), (5, .int x5), (6, .int x6)]) hx hb dX5_takeStep_82 hl (by decide) rfl (fun ls hl => ?_)
    refine lv_iload hx hb dX5_takeStep_84 (lv_at hl 0 rfl) ?_
    refine lv_iconst (v := (-1)) hx hb dX5_takeStep_86 (by decide) ?_
    refine lv_icmp_eq (tgt := 108) hx hb dX5_takeStep_87 (by decide) (fun c87 => ?_) (fun c87 => ?_)
    · have hf := if_t c87 hf
      exact B108 _ _ _ _ _ _ _ hf H locs hP hD hS ls (lv_sub hl [1, 2, 3, 5] rfl)
    · have hf := if_f c87 hf
      refine lv_aload_n hx hb dX5_takeStep_90 rfl (lv_at hl 1 rfl) ?_
      refine ld_f S iX5 hK hP 0 1 (.ref (A 11)) (gX5_0 _ _ _ _ _ _ _ _ _ _) rfl (by decide) k21 rfl rfl dX5_takeStep_91 ?_
      refine ld_f S iX3 hK hP 11 6 (.ref (A 17)) (gX5_11 _ _ _ _ _ _ _ _ _ _) rfl (by decide) k198 rfl rfl dX5_takeStep_94 ?_
      refine lv_iload hx hb dX5_takeStep_97 (lv_at hl 6 rfl) ?_
      refine lv_iload hx hb dX5_takeStep_99 (lv_at hl 0 rfl) ?_
      obtain ⟨q101, h101, hf⟩ := bd_t hf
      refine cl_i (va_runS (As := [.int x6, .int y0]) (rest := [.ref (A 17)]) S (mX5_spotOf l D cI cZ x6 y0 H.size q101 h101) (va_cwS 2 hts gX5_takeStep_X5_spotOf rfl rfl rfl (by decide +kernel) ⟨Nat.le_of_ble_eq_true rfl, Nat.le_of_ble_eq_true rfl⟩) (mP_S (Cut.nil _) hP hD hK hG) rfl rfl hl.1 rfl (lv_room (Nat.le_of_ble_eq_true rfl)) dX5_takeStep_101 ⟨Nat.le_refl _, Nat.le_refl _⟩) (Cut.nil _) hP hD hS hA (fun H locs hP hD hS => ?_)
      obtain ⟨c104, hf⟩ := ck_t hf
      refine va_zald (f := ct 6) hx hb hK hP 17 1 (gX5_17 _ _ _ _ _ _ _ _ _ _) rfl (inb_in c104) dX5_takeStep_104 ?_
      refine lv_if_ne (tgt := 117) hx hb dX5_takeStep_105 (by decide) (fun c105 => ?_) (fun c105 => ?_)
      · have hf := if_f c105 hf
        refine lv_iload hx hb dX5_takeStep_117 (lv_at hl 6 rfl) ?_
        refine lv_iload hx hb dX5_takeStep_119 (lv_at hl 0 rfl) ?_
        obtain ⟨q121, h121, hf⟩ := bd_t hf
        refine cl_i (va_runS (As := [.int x6, .int y0]) (rest := []) S (mX5_spotOf l D cI cZ x6 y0 H.size q121 h121) (va_cwS 2 hts gX5_takeStep_X5_spotOf rfl rfl rfl (by decide +kernel) ⟨Nat.le_of_ble_eq_true rfl, Nat.le_of_ble_eq_true rfl⟩) (mP_S (Cut.nil _) hP hD hK hG) rfl rfl hl.1 rfl (lv_room (Nat.le_of_ble_eq_true rfl)) dX5_takeStep_121 ⟨Nat.le_refl _, Nat.le_refl _⟩) (Cut.nil _) hP hD hS hA (fun H locs hP hD hS => ?_)
        refine lv_istore (lv' := [(8, .int q121), (7, .int y0), (0, .ref (A 0)), (1, .int x1), (3, .int x3), (4, .int x4), (5, .int x5), (6, .int x6)]) hx hb dX5_takeStep_124 hl (by decide) rfl (fun ls hl => ?_)
        refine lv_iload hx hb dX5_takeStep_126 (lv_at hl 0 rfl) ?_
        refine lv_iload hx hb dX5_takeStep_128 (lv_at hl 5 rfl) ?_
        refine lv_icmp_ne (tgt := 137) hx hb dX5_takeStep_130 (by decide) (fun c130 => ?_) (fun c130 => ?_)
        · have hf := if_f c130 hf
          refine lv_aload_n hx hb dX5_takeStep_137 rfl (lv_at hl 2 rfl) ?_
          refine lv_iload hx hb dX5_takeStep_138 (lv_at hl 0 rfl) ?_
          refine lv_iload_n hx hb dX5_takeStep_140 rfl (lv_at hl 3 rfl) ?_
          refine lv_iload hx hb dX5_takeStep_141 (lv_at hl 6 rfl) ?_
          refine lv_iload_n hx hb dX5_takeStep_143 rfl (lv_at hl 4 rfl) ?_
          obtain ⟨q144, h144, hf⟩ := bd_t hf
          refine cl_i (va_runV (As := [.int q121, .int x1, .int x5, .int x3]) (rest := []) S (mX5_goOut l D cI cZ A cs cw ct cu cl cb cp q121 x1 x5 x3 H.size q144 h144) (cwV 4 hts gX5_takeStep_X5_goOut rfl rfl rfl (by decide +kernel) ⟨Nat.le_of_ble_eq_true rfl, Nat.le_of_ble_eq_true rfl⟩) (mP_V (ci := 5) (Cut.self _ []) hP hD hK hG rfl (gX5_0 _ _ _ _ _ _ _ _ _ _)) rfl rfl hl.1 rfl (lv_room (Nat.le_of_ble_eq_true rfl)) dX5_takeStep_144 ⟨Nat.le_refl _, Nat.le_refl _⟩) (Cut.self _ _) hP hD hS hA (fun H locs hP hD hS => ?_)
          exact hR _ ls H locs _ _ (congrArg (fun q => q.1) (Option.some.inj hf)) (congrArg (fun q => (wX5 cI cZ A (q.2.1) cw (q.2.2.1) cu cl (q.2.2.2.1) (q.2.2.2.2))) (Option.some.inj hf)) rfl dX5_takeStep_147 hP hD hS
        · have hf := if_t c130 hf
          refine lv_iconst (v := 0) hx hb dX5_takeStep_133 (by decide) ?_
          refine lv_goto (tgt := 147) hx hb dX5_takeStep_134 (by decide) ?_
          exact hR _ ls H locs _ _ (congrArg (fun q => q.1) (Option.some.inj hf)) (congrArg (fun q => (wX5 cI cZ A (q.2.1) cw (q.2.2.1) cu cl (q.2.2.2.1) (q.2.2.2.2))) (Option.some.inj hf)) rfl dX5_takeStep_147 hP hD hS
      · have hf := if_t c105 hf
        exact B108 _ _ _ _ _ _ _ hf H locs hP hD hS ls (lv_sub hl [1, 2, 3, 5] rfl)
  intro H locs hP hD hS ls hl
  have hl : lv_has ls 9 [(0, .ref (A 0)), (1, .int x1), (2, .int x2), (3, .int x3)] := hl
  unfold fX5_takeStep at hf
  refine lv_aload_n hx hb dX5_takeStep_0 rfl (lv_at hl 0 rfl) ?_
  refine ld_f S iX5 hK hP 0 5 (.ref (A 48)) (gX5_0 _ _ _ _ _ _ _ _ _ _) rfl (by decide) k45 rfl rfl dX5_takeStep_1 ?_
  refine ld_f S iX1 hK hP 48 0 (.ref (A 49)) (gX5_48 _ _ _ _ _ _ _ _ _ _) rfl (by decide) k291 rfl rfl dX5_takeStep_4 ?_
  refine lv_iload_n hx hb dX5_takeStep_7 rfl (lv_at hl 1 rfl) ?_
  obtain ⟨c8, hf⟩ := ck_t hf
  refine va_iald (f := cp 0) hx hb hK hP 49 0 (gX5_49 _ _ _ _ _ _ _ _ _ _) rfl (inb_in c8) dX5_takeStep_8 ?_
  refine lv_istore (lv' := [(4, .int (cp 0 x1.toNatClampNeg)), (0, .ref (A 0)), (1, .int x1), (2, .int x2), (3, .int x3)]) hx hb dX5_takeStep_9 hl (by decide) rfl (fun ls hl => ?_)
  refine lv_aload_n hx hb dX5_takeStep_11 rfl (lv_at hl 1 rfl) ?_
  refine lv_iload hx hb dX5_takeStep_12 (lv_at hl 0 rfl) ?_
  refine lv_aload_n hx hb dX5_takeStep_14 rfl (lv_at hl 1 rfl) ?_
  refine ld_f S iX5 hK hP 0 5 (.ref (A 48)) (gX5_0 _ _ _ _ _ _ _ _ _ _) rfl (by decide) k45 rfl rfl dX5_takeStep_15 ?_
  refine ld_f S iX1 hK hP 48 1 (.ref (A 50)) (gX5_48 _ _ _ _ _ _ _ _ _ _) rfl (by decide) k294 rfl rfl dX5_takeStep_18 ?_
  refine lv_iload_n hx hb dX5_takeStep_21 rfl (lv_at hl 2 rfl) ?_
  obtain ⟨c22, hf⟩ := ck_t hf
  refine va_iald (f := cp 1) hx hb hK hP 50 0 (gX5_50 _ _ _ _ _ _ _ _ _ _) rfl (inb_in c22) dX5_takeStep_22 ?_
  obtain ⟨q23, h23, hf⟩ := bd_t hf
  refine cl_i (va_runV (As := [.int (cp 0 x1.toNatClampNeg), .int (cp 1 x1.toNatClampNeg)]) (rest := []) S (mX5_laneLetIn l D cI cZ A cs cw ct cu cl cb cp (cp 0 x1.toNatClampNeg) (cp 1 x1.toNatClampNeg) H.size q23 h23) (cwV 2 hts gX5_takeStep_X5_laneLetIn rfl rfl rfl (by decide +kernel) ⟨Nat.le_of_ble_eq_true rfl, Nat.le_of_ble_eq_true rfl⟩) (mP_V (ci := 5) (Cut.self _ []) hP hD hK hG rfl (gX5_0 _ _ _ _ _ _ _ _ _ _)) rfl rfl hl.1 rfl (lv_room (Nat.le_of_ble_eq_true rfl)) dX5_takeStep_23 ⟨Nat.le_refl _, Nat.le_refl _⟩) (Cut.self _ _) hP hD hS hA (fun H locs hP hD hS => ?_)
  refine lv_istore (lv' := [(5, .int q23), (4, .int (cp 0 x1.toNatClampNeg)), (0, .ref (A 0)), (1, .int x1), (2, .int x2), (3, .int x3)]) hx hb dX5_takeStep_26 hl (by decide) rfl (fun ls hl => ?_)
  refine lv_iload hx hb dX5_takeStep_28 (lv_at hl 0 rfl) ?_
  refine lv_if_ne (tgt := 35) hx hb dX5_takeStep_30 (by decide) (fun c30 => ?_) (fun c30 => ?_)
  · have hf := if_f c30 hf
    refine lv_iload hx hb dX5_takeStep_35 (lv_at hl 1 rfl) ?_
    refine lv_iconst (v := 5) hx hb dX5_takeStep_37 (by decide) ?_
    refine lv_idiv hx hb dX5_takeStep_38 (by decide) ?_
    refine lv_istore (lv' := [(6, .int ((cp 0 x1.toNatClampNeg) / 5)), (5, .int q23), (4, .int (cp 0 x1.toNatClampNeg)), (0, .ref (A 0)), (1, .int x1), (2, .int x2), (3, .int x3)]) hx hb dX5_takeStep_39 hl (by decide) rfl (fun ls hl => ?_)
    refine lv_aload_n hx hb dX5_takeStep_41 rfl (lv_at hl 3 rfl) ?_
    refine ld_f S iX5 hK hP 0 4 (.ref (A 44)) (gX5_0 _ _ _ _ _ _ _ _ _ _) rfl (by decide) k38 rfl rfl dX5_takeStep_42 ?_
    refine lv_iload hx hb dX5_takeStep_45 (lv_at hl 2 rfl) ?_
    refine lv_iload hx hb dX5_takeStep_47 (lv_at hl 1 rfl) ?_
    refine lv_iload_n hx hb dX5_takeStep_49 rfl (lv_at hl 5 rfl) ?_
    refine lv_aload_n hx hb dX5_takeStep_50 rfl (lv_at hl 3 rfl) ?_
    refine ld_f S iX5 hK hP 0 1 (.ref (A 11)) (gX5_0 _ _ _ _ _ _ _ _ _ _) rfl (by decide) k21 rfl rfl dX5_takeStep_51 ?_
    refine ld_f S iX3 hK hP 11 9 (.int (ct 9 0)) (gX5_11 _ _ _ _ _ _ _ _ _ _) rfl (by decide) k160 rfl rfl dX5_takeStep_54 ?_
    obtain ⟨q57, h57, hf⟩ := bd_t hf
    refine cl_v (va_runV (As := [.int (cp 0 x1.toNatClampNeg), .int q23, .int x2, .int (ct 9 0)]) (rest := []) S (mX2_hear l D cI cZ (aX5_X2_5 A) cb (cp 0 x1.toNatClampNeg) q23 x2 (ct 9 0) H.size q57 h57) (cwV 4 hts gX5_takeStep_X2_hear rfl rfl rfl (by decide +kernel) ⟨Nat.le_of_ble_eq_true rfl, Nat.le_of_ble_eq_true rfl⟩) (mP_V (ci := 2) (cutX5_X2_5 _ _ _ _ _ _ _ _ _ _ st0) hP hD hK hG rfl (gX2_0 _ _ _ _)) rfl rfl hl.1 rfl (lv_room (Nat.le_of_ble_eq_true rfl)) dX5_takeStep_57 ⟨Nat.le_refl _, Nat.le_refl _⟩) (cutX5_X2_5 _ _ _ _ _ _ _ _ _ _ _) hP hD hS hA (fun H locs hP hD hS => ?_)
    refine lv_iload_n hx hb dX5_takeStep_60 rfl (lv_at hl 6 rfl) ?_
    refine lv_bipush (v := 10) hx hb dX5_takeStep_61 (by decide) ?_
    refine lv_icmp_ne (tgt := 70) hx hb dX5_takeStep_63 (by decide) (fun c63 => ?_) (fun c63 => ?_)
    · have hf := if_f c63 hf
      refine lv_aload_n hx hb dX5_takeStep_70 rfl (lv_at hl 3 rfl) ?_
      refine ld_f S iX5 hK hP 0 4 (.ref (A 44)) (gX5_0 _ _ _ _ _ _ _ _ _ _) rfl (by decide) k38 rfl rfl dX5_takeStep_71 ?_
      refine lv_iload hx hb dX5_takeStep_74 (lv_at hl 0 rfl) ?_
      refine lv_iload hx hb dX5_takeStep_76 (lv_at hl 1 rfl) ?_
      refine lv_iload_n hx hb dX5_takeStep_78 rfl (lv_at hl 6 rfl) ?_
      obtain ⟨q79, h79, hf⟩ := bd_t hf
      refine cl_i (va_runV (As := [.int ((cp 0 x1.toNatClampNeg) / 5), .int q23, .int x3]) (rest := []) S (mX2_portFor l D cI cZ (aX5_X2_5 A) q57 ((cp 0 x1.toNatClampNeg) / 5) q23 x3 H.size q79 h79) (cwV 3 hts gX5_takeStep_X2_portFor rfl rfl rfl (by decide +kernel) ⟨Nat.le_of_ble_eq_true rfl, Nat.le_of_ble_eq_true rfl⟩) (mP_V (ci := 2) (cutX5_X2_5 _ _ _ _ _ _ _ _ _ _ st0) hP hD hK hG rfl (gX2_0 _ _ _ _)) rfl rfl hl.1 rfl (lv_room (Nat.le_of_ble_eq_true rfl)) dX5_takeStep_79 ⟨Nat.le_refl _, Nat.le_refl _⟩) (cutX5_X2_5 _ _ _ _ _ _ _ _ _ _ _) hP hD hS hA (fun H locs hP hD hS => ?_)
      exact B82 _ _ _ _ _ _ _ _ _ _ hf H locs hP hD hS ls (lv_sub hl [3, 4, 6, 2, 1, 0] rfl)
    · have hf := if_t c63 hf
      refine lv_iconst (v := (-1)) hx hb dX5_takeStep_66 (by decide) ?_
      refine lv_goto (tgt := 82) hx hb dX5_takeStep_67 (by decide) ?_
      exact B82 _ _ _ _ _ _ _ _ _ _ hf H locs hP hD hS ls (lv_sub hl [3, 4, 6, 2, 1, 0] rfl)
  · have hf := if_t c30 hf
    refine lv_iconst (v := 0) hx hb dX5_takeStep_33 (by decide) ?_
    exact hR _ ls H locs _ _ (congrArg (fun q => q.1) (Option.some.inj hf)) (congrArg (fun q => (wX5 cI cZ A (q.2.1) cw (q.2.2.1) cu cl (q.2.2.2.1) (q.2.2.2.2))) (Option.some.inj hf)) rfl dX5_takeStep_34 hP hD hS
set_option maxHeartbeats 4000000 in
set_option maxRecDepth 100000 in
theorem mX5_send (l : Launch) (D : va_G) (cI cZ : ClassId) (A : Nat → Nat)  (cs : St) (cw : St) (ct : St) (cu : St) (cl : St) (cb : St) (cp : St) (x1 : Int32) (x2 : Int32) (x3 : Int32) (x4 : Int32) (sz : Nat) (res : Int32 × St × St × St × St) (hf : fX5_send cs cw ct cl cb cp x1 x2 x3 x4 = some (.inl res)) : Met l yX5_send wsX5_send ({ frames := 7, cells := 0, slots := 0, locals := 125 }) (mP D (tysX cI cZ) [.ref (A 0), .int x1, .int x2, .int x3, .int x4] (wX5 cI cZ A cs cw ct cu cl cb cp) sz) (mQi D res.1 (wX5 cI cZ A cs cw ct cu cl cb cp) (wX5 cI cZ A (res.2.1) cw (res.2.2.1) cu cl (res.2.2.2.1) (res.2.2.2.2)) sz) 0 0 (va_A (wX5 cI cZ A cs cw ct cu cl cb cp) sz) := by
  refine mkM_i (cc := cX5_send) (maxL := 8) (own := RX5) (by decide +kernel) rfl rfl (Nat.le_of_ble_eq_true rfl) ?_
  intro p e s m args below meth c A0 Q S hK hG hA hR
  obtain ⟨hx, hb, hml, hown, hts⟩ := id S
  have k12 := hts (.fieldLink RX5 12 "SwitchFloor" "wiring" "LSwitchFloor$Wiring;") (by decide +kernel)
  have iX5 : ∀ w ∈ wsX50, w ∈ wsX5_send := by decide +kernel
  have k116 := hts (.fieldLink RX5 116 "SwitchFloor$Wiring" "spotOfHouse" "[I") (by decide +kernel)
  have iX4 : ∀ w ∈ wsX40, w ∈ wsX5_send := by decide +kernel
  have k45 := hts (.fieldLink RX5 45 "SwitchFloor" "steps" "LSwitchFloor$Steps;") (by decide +kernel)
  have k174 := hts (.fieldLink RX5 174 "SwitchFloor$Steps" "size" "I") (by decide +kernel)
  have iX1 : ∀ w ∈ wsX10, w ∈ wsX5_send := by decide +kernel
  have B104 : ∀ (x1 : Int32) (x2 : Int32) (cs : St) (ct : St) (cb : St) (cp : St) (x6 : Int32) (x7 : Int32), fX5_send_L104 cw cl x1 x2 cs ct cb cp x6 x7 = some (.inl res) → Bk p l e ({ frames := 7, cells := 0, slots := 0, locals := 125 }) s m args below meth c Q A0 D 8 0 0 (wX5 cI cZ A cs cw ct cu cl cb cp) [(0, .ref (A 0)), (1, .int x1), (2, .int x2), (6, .int x6), (7, .int x7)] 104 [] := by
    intro x1 x2 cs ct cb cp x6 x7 hf
    refine loop_ind (step := (fun k a => fX5_send_S104 k cw cl x1 x2 (a.1) (a.2.1) (a.2.2.1) (a.2.2.2.1) (a.2.2.2.2.1) (a.2.2.2.2.2))) (fun a => Bk p l e ({ frames := 7, cells := 0, slots := 0, locals := 125 }) s m args below meth c Q A0 D 8 0 0 (wX5 cI cZ A (a.1) cw (a.2.1) cu cl (a.2.2.1) (a.2.2.2.1)) [(0, .ref (A 0)), (1, .int x1), (2, .int x2), (6, .int (a.2.2.2.2.1)), (7, .int (a.2.2.2.2.2))] 104 []) ?_ _ _ hf
    clear hf
    intro k104 hk104 a hf
    obtain ⟨cs_, ct_, cb_, cp_, x6_, x7_⟩ := a
    clear cs ct cb cp x6 x7
    obtain ⟨cs, e_⟩ : ∃ z, z = cs_ := ⟨_, rfl⟩
    subst e_
    obtain ⟨ct, e_⟩ : ∃ z, z = ct_ := ⟨_, rfl⟩
    subst e_
    obtain ⟨cb, e_⟩ : ∃ z, z = cb_ := ⟨_, rfl⟩
    subst e_
    obtain ⟨cp, e_⟩ : ∃ z, z = cp_ := ⟨_, rfl⟩
    subst e_
    obtain ⟨x6, e_⟩ : ∃ z, z = x6_ := ⟨_, rfl⟩
    subst e_
    obtain ⟨x7, e_⟩ : ∃ z, z = x7_ := ⟨_, rfl⟩
    subst e_
    have hf : fX5_send_S104 k104 cw cl x1 x2 cs ct cb cp x6 x7 = some (.inl res) := hf
    show Bk p l e ({ frames := 7, cells := 0, slots := 0, locals := 125 }) s m args below meth c Q A0 D 8 0 0 (wX5 cI cZ A cs cw ct cu cl cb cp) [(0, .ref (A 0)), (1, .int x1), (2, .int x2), (6, .int x6), (7, .int x7)] 104 []
    unfold fX5_send_S104 at hf
    intro H locs hP hD hS ls hl
    refine lv_iload hx hb dX5_send_104 (lv_at hl 4 rfl) ?_
    refine lv_sipush (v := 400) hx hb dX5_send_106 (by decide) ?_
    refine lv_icmp_ge (tgt := 143) hx hb dX5_send_109 (by decide) (fun c109 => ?_) (fun c109 => ?_)
    · have hf := if_t c109 hf
      refine lv_iload hx hb dX5_send_143 (lv_at hl 3 rfl) ?_
      exact hR _ ls H locs _ _ (congrArg (fun q => q.1) (Sum.inl.inj (Option.some.inj hf))) (congrArg (fun q => (wX5 cI cZ A (q.2.1) cw (q.2.2.1) cu cl (q.2.2.2.1) (q.2.2.2.2))) (Sum.inl.inj (Option.some.inj hf))) rfl dX5_send_145 hP hD hS
    · have hf := if_f c109 hf
      refine lv_iload hx hb dX5_send_112 (lv_at hl 4 rfl) ?_
      refine lv_aload_n hx hb dX5_send_114 rfl (lv_at hl 0 rfl) ?_
      refine ld_f S iX5 hK hP 0 5 (.ref (A 48)) (gX5_0 _ _ _ _ _ _ _ _ _ _) rfl (by decide) k45 rfl rfl dX5_send_115 ?_
      refine ld_f S iX1 hK hP 48 4 (.int (cp 4 0)) (gX5_48 _ _ _ _ _ _ _ _ _ _) rfl (by decide) k174 rfl rfl dX5_send_118 ?_
      refine lv_icmp_ge (tgt := 143) hx hb dX5_send_121 (by decide) (fun c121 => ?_) (fun c121 => ?_)
      · have hf := if_t c121 hf
        refine lv_iload hx hb dX5_send_143 (lv_at hl 3 rfl) ?_
        exact hR _ ls H locs _ _ (congrArg (fun q => q.1) (Sum.inl.inj (Option.some.inj hf))) (congrArg (fun q => (wX5 cI cZ A (q.2.1) cw (q.2.2.1) cu cl (q.2.2.2.1) (q.2.2.2.2))) (Sum.inl.inj (Option.some.inj hf))) rfl dX5_send_145 hP hD hS
      · have hf := if_f c121 hf
        refine lv_iload hx hb dX5_send_124 (lv_at hl 3 rfl) ?_
        refine lv_aload_n hx hb dX5_send_126 rfl (lv_at hl 0 rfl) ?_
        refine lv_iload hx hb dX5_send_127 (lv_at hl 4 rfl) ?_
        refine lv_iload_n hx hb dX5_send_129 rfl (lv_at hl 1 rfl) ?_
        refine lv_iload_n hx hb dX5_send_130 rfl (lv_at hl 2 rfl) ?_
        obtain ⟨q131, h131, hf⟩ := bd_t hf
        refine cl_i (va_runV (As := [.int x7, .int x1, .int x2]) (rest := [.int x6]) S (mX5_takeStep l D cI cZ A cs cw ct cu cl cb cp x7 x1 x2 H.size q131 h131) (cwV 3 hts gX5_send_X5_takeStep rfl rfl rfl (by decide +kernel) ⟨Nat.le_of_ble_eq_true rfl, Nat.le_of_ble_eq_true rfl⟩) (mP_V (ci := 5) (Cut.self _ []) hP hD hK hG rfl (gX5_0 _ _ _ _ _ _ _ _ _ _)) rfl rfl hl.1 rfl (lv_room (Nat.le_of_ble_eq_true rfl)) dX5_send_131 ⟨Nat.le_refl _, Nat.le_refl _⟩) (Cut.self _ _) hP hD hS hA (fun H locs hP hD hS => ?_)
        refine lv_iadd hx hb dX5_send_134 ?_
        refine lv_istore (lv' := [(6, .int (x6 + q131.1)), (0, .ref (A 0)), (1, .int x1), (2, .int x2), (7, .int x7)]) hx hb dX5_send_135 hl (by decide) rfl (fun ls hl => ?_)
        refine lv_iinc (v := x7 + 1) (lv' := [(7, .int (x7 + 1)), (6, .int (x6 + q131.1)), (0, .ref (A 0)), (1, .int x1), (2, .int x2)]) hx hb dX5_send_137 hl (k := 4) rfl rfl (by decide) rfl (fun ls hl => ?_)
        refine lv_goto (tgt := 104) hx hb dX5_send_140 (by decide) ?_
        exact hk104 _ hf H locs hP hD hS ls (lv_sub hl [2, 3, 4, 1, 0] rfl)
  have B51 : ∀ (cs : St) (ct : St) (cb : St) (cp : St) (x1 : Int32) (x2 : Int32) (x3 : Int32) (x4 : Int32), fX5_send_J51 cs cw ct cl cb cp x1 x2 x3 x4 = some (.inl res) → Bk p l e ({ frames := 7, cells := 0, slots := 0, locals := 125 }) s m args below meth c Q A0 D 8 0 0 (wX5 cI cZ A cs cw ct cu cl cb cp) [(0, .ref (A 0)), (1, .int x1), (2, .int x2), (3, .int x3), (4, .int x4)] 51 [] := by
    intro cs ct cb cp x1 x2 x3 x4 hf
    unfold fX5_send_J51 at hf
    intro H locs hP hD hS ls hl
    refine lv_aload_n hx hb dX5_send_51 rfl (lv_at hl 0 rfl) ?_
    refine ld_f S iX5 hK hP 0 0 (.ref (A 4)) (gX5_0 _ _ _ _ _ _ _ _ _ _) rfl (by decide) k12 rfl rfl dX5_send_52 ?_
    refine ld_f S iX4 hK hP 4 4 (.ref (A 9)) (gX5_4 _ _ _ _ _ _ _ _ _ _) rfl (by decide) k116 rfl rfl dX5_send_55 ?_
    refine lv_iload_n hx hb dX5_send_58 rfl (lv_at hl 1 rfl) ?_
    obtain ⟨c59, hf⟩ := ck_t hf
    refine va_iald (f := cw 4) hx hb hK hP 9 0 (gX5_9 _ _ _ _ _ _ _ _ _ _) rfl (inb_in c59) dX5_send_59 ?_
    refine lv_istore (lv' := [(5, .int (cw 4 x1.toNatClampNeg)), (0, .ref (A 0)), (1, .int x1), (2, .int x2), (3, .int x3), (4, .int x4)]) hx hb dX5_send_60 hl (by decide) rfl (fun ls hl => ?_)
    refine lv_iload hx hb dX5_send_62 (lv_at hl 0 rfl) ?_
    refine lv_iconst (v := (-1)) hx hb dX5_send_64 (by decide) ?_
    refine lv_icmp_ne (tgt := 78) hx hb dX5_send_65 (by decide) (fun c65 => ?_) (fun c65 => ?_)
    · have hf := if_f c65 hf
      refine lv_aload_n hx hb dX5_send_78 rfl (lv_at hl 1 rfl) ?_
      refine ld_f S iX5 hK hP 0 5 (.ref (A 48)) (gX5_0 _ _ _ _ _ _ _ _ _ _) rfl (by decide) k45 rfl rfl dX5_send_79 ?_
      obtain ⟨q82, h82, hf⟩ := bd_t hf
      refine cl_v (va_runV (As := []) (rest := []) S (mX1_restart l D cI cZ (aX5_X1_6 A) cp H.size q82 h82) (cwV 0 hts gX5_send_X1_restart rfl rfl rfl (by decide +kernel) ⟨Nat.le_of_ble_eq_true rfl, Nat.le_of_ble_eq_true rfl⟩) (mP_V (ci := 1) (cutX5_X1_6 _ _ _ _ _ _ _ _ _ _ st0) hP hD hK hG rfl (gX1_0 _ _ _ _)) rfl rfl hl.1 rfl (lv_room (Nat.le_of_ble_eq_true rfl)) dX5_send_82 ⟨Nat.le_refl _, Nat.le_refl _⟩) (cutX5_X1_6 _ _ _ _ _ _ _ _ _ _ _) hP hD hS hA (fun H locs hP hD hS => ?_)
      refine lv_aload_n hx hb dX5_send_85 rfl (lv_at hl 1 rfl) ?_
      refine ld_f S iX5 hK hP 0 5 (.ref (A 48)) (gX5_0 _ _ _ _ _ _ _ _ _ _) rfl (by decide) k45 rfl rfl dX5_send_86 ?_
      refine lv_iload hx hb dX5_send_89 (lv_at hl 0 rfl) ?_
      refine lv_iload_n hx hb dX5_send_91 rfl (lv_at hl 4 rfl) ?_
      refine lv_iload hx hb dX5_send_92 (lv_at hl 5 rfl) ?_
      refine lv_iconst (v := 0) hx hb dX5_send_94 (by decide) ?_
      obtain ⟨q95, h95, hf⟩ := bd_t hf
      refine cl_v (va_runV (As := [.int (cw 4 x1.toNatClampNeg), .int x3, .int x4, .int 0]) (rest := []) S (mX1_add l D cI cZ (aX5_X1_6 A) q82 (cw 4 x1.toNatClampNeg) x3 x4 0 H.size q95 h95) (cwV 4 hts gX5_send_X1_add rfl rfl rfl (by decide +kernel) ⟨Nat.le_of_ble_eq_true rfl, Nat.le_of_ble_eq_true rfl⟩) (mP_V (ci := 1) (cutX5_X1_6 _ _ _ _ _ _ _ _ _ _ st0) hP hD hK hG rfl (gX1_0 _ _ _ _)) rfl rfl hl.1 rfl (lv_room (Nat.le_of_ble_eq_true rfl)) dX5_send_95 ⟨Nat.le_refl _, Nat.le_refl _⟩) (cutX5_X1_6 _ _ _ _ _ _ _ _ _ _ _) hP hD hS hA (fun H locs hP hD hS => ?_)
      refine lv_iconst (v := 0) hx hb dX5_send_98 (by decide) ?_
      refine lv_istore (lv' := [(6, .int 0), (5, .int (cw 4 x1.toNatClampNeg)), (0, .ref (A 0)), (1, .int x1), (2, .int x2), (3, .int x3), (4, .int x4)]) hx hb dX5_send_99 hl (by decide) rfl (fun ls hl => ?_)
      refine lv_iconst (v := 0) hx hb dX5_send_101 (by decide) ?_
      refine lv_istore (lv' := [(7, .int 0), (6, .int 0), (5, .int (cw 4 x1.toNatClampNeg)), (0, .ref (A 0)), (1, .int x1), (2, .int x2), (3, .int x3), (4, .int x4)]) hx hb dX5_send_102 hl (by decide) rfl (fun ls hl => ?_)
      exact B104 _ _ _ _ _ _ _ _ hf H locs hP hD hS ls (lv_sub hl [3, 4, 5, 1, 0] rfl)
    · have hf := if_t c65 hf
      cases hf
  have B14 : ∀ (cs : St) (ct : St) (cb : St) (cp : St) (x1 : Int32) (x2 : Int32) (x3 : Int32) (x4 : Int32), fX5_send_J14 cs cw ct cl cb cp x1 x2 x3 x4 = some (.inl res) → Bk p l e ({ frames := 7, cells := 0, slots := 0, locals := 125 }) s m args below meth c Q A0 D 8 0 0 (wX5 cI cZ A cs cw ct cu cl cb cp) [(0, .ref (A 0)), (1, .int x1), (2, .int x2), (3, .int x3), (4, .int x4)] 14 [] := by
    intro cs ct cb cp x1 x2 x3 x4 hf
    unfold fX5_send_J14 at hf
    intro H locs hP hD hS ls hl
    refine lv_iload_n hx hb dX5_send_14 rfl (lv_at hl 3 rfl) ?_
    refine lv_iconst (v := 0) hx hb dX5_send_15 (by decide) ?_
    refine lv_iconst (v := 3) hx hb dX5_send_16 (by decide) ?_
    obtain ⟨q17, h17, hf⟩ := bx_l hf
    refine cl_v (va_runS (As := [.int x3, .int 0, .int 3]) (rest := []) S (mX5_needWithin l D cI cZ x3 0 3 H.size q17 h17) (va_cwS 3 hts gX5_send_X5_needWithin rfl rfl rfl (by decide +kernel) ⟨Nat.le_of_ble_eq_true rfl, Nat.le_of_ble_eq_true rfl⟩) (mP_S (Cut.nil _) hP hD hK hG) rfl rfl hl.1 rfl (lv_room (Nat.le_of_ble_eq_true rfl)) dX5_send_17 ⟨Nat.le_refl _, Nat.le_refl _⟩) (Cut.nil _) hP hD hS hA (fun H locs hP hD hS => ?_)
    refine lv_iload hx hb dX5_send_20 (lv_at hl 4 rfl) ?_
    refine lv_iconst (v := 0) hx hb dX5_send_22 (by decide) ?_
    refine lv_iconst (v := 3) hx hb dX5_send_23 (by decide) ?_
    obtain ⟨q24, h24, hf⟩ := bx_l hf
    refine cl_v (va_runS (As := [.int x4, .int 0, .int 3]) (rest := []) S (mX5_needWithin l D cI cZ x4 0 3 H.size q24 h24) (va_cwS 3 hts gX5_send_X5_needWithin rfl rfl rfl (by decide +kernel) ⟨Nat.le_of_ble_eq_true rfl, Nat.le_of_ble_eq_true rfl⟩) (mP_S (Cut.nil _) hP hD hK hG) rfl rfl hl.1 rfl (lv_room (Nat.le_of_ble_eq_true rfl)) dX5_send_24 ⟨Nat.le_refl _, Nat.le_refl _⟩) (Cut.nil _) hP hD hS hA (fun H locs hP hD hS => ?_)
    refine lv_iload_n hx hb dX5_send_27 rfl (lv_at hl 1 rfl) ?_
    refine lv_iload_n hx hb dX5_send_28 rfl (lv_at hl 2 rfl) ?_
    refine lv_icmp_eq (tgt := 41) hx hb dX5_send_29 (by decide) (fun c29 => ?_) (fun c29 => ?_)
    · have hf := if_t c29 hf
      cases hf
    · have hf := if_f c29 hf
      refine lv_iload_n hx hb dX5_send_32 rfl (lv_at hl 3 rfl) ?_
      refine lv_if_ne (tgt := 51) hx hb dX5_send_33 (by decide) (fun c33 => ?_) (fun c33 => ?_)
      · have hf := if_f c33 hf
        exact B51 _ _ _ _ _ _ _ _ hf H locs hP hD hS ls (lv_sub hl [0, 1, 2, 3, 4] rfl)
      · have hf := if_t c33 hf
        refine lv_iload hx hb dX5_send_36 (lv_at hl 4 rfl) ?_
        refine lv_if_eq (tgt := 51) hx hb dX5_send_38 (by decide) (fun c38 => ?_) (fun c38 => ?_)
        · have hf := if_t c38 hf
          exact B51 _ _ _ _ _ _ _ _ hf H locs hP hD hS ls (lv_sub hl [0, 1, 2, 3, 4] rfl)
        · have hf := if_f c38 hf
          cases hf
  intro H locs hP hD hS ls hl
  have hl : lv_has ls 8 [(0, .ref (A 0)), (1, .int x1), (2, .int x2), (3, .int x3), (4, .int x4)] := hl
  unfold fX5_send at hf
  refine lv_iload_n hx hb dX5_send_0 rfl (lv_at hl 1 rfl) ?_
  obtain ⟨q1, h1, hf⟩ := bx_l hf
  refine cl_v (va_runS (As := [.int x1]) (rest := []) S (mX5_needHouse l D cI cZ x1 H.size q1 h1) (va_cwS 1 hts gX5_send_X5_needHouse rfl rfl rfl (by decide +kernel) ⟨Nat.le_of_ble_eq_true rfl, Nat.le_of_ble_eq_true rfl⟩) (mP_S (Cut.nil _) hP hD hK hG) rfl rfl hl.1 rfl (lv_room (Nat.le_of_ble_eq_true rfl)) dX5_send_1 ⟨Nat.le_refl _, Nat.le_refl _⟩) (Cut.nil _) hP hD hS hA (fun H locs hP hD hS => ?_)
  refine lv_iload_n hx hb dX5_send_4 rfl (lv_at hl 2 rfl) ?_
  refine lv_bipush (v := 10) hx hb dX5_send_5 (by decide) ?_
  refine lv_icmp_eq (tgt := 14) hx hb dX5_send_7 (by decide) (fun c7 => ?_) (fun c7 => ?_)
  · have hf := if_t c7 hf
    exact B14 _ _ _ _ _ _ _ _ hf H locs hP hD hS ls (lv_sub hl [0, 1, 2, 3, 4] rfl)
  · have hf := if_f c7 hf
    refine lv_iload_n hx hb dX5_send_10 rfl (lv_at hl 2 rfl) ?_
    obtain ⟨q11, h11, hf⟩ := bx_l hf
    refine cl_v (va_runS (As := [.int x2]) (rest := []) S (mX5_needHouse l D cI cZ x2 H.size q11 h11) (va_cwS 1 hts gX5_send_X5_needHouse rfl rfl rfl (by decide +kernel) ⟨Nat.le_of_ble_eq_true rfl, Nat.le_of_ble_eq_true rfl⟩) (mP_S (Cut.nil _) hP hD hK hG) rfl rfl hl.1 rfl (lv_room (Nat.le_of_ble_eq_true rfl)) dX5_send_11 ⟨Nat.le_refl _, Nat.le_refl _⟩) (Cut.nil _) hP hD hS hA (fun H locs hP hD hS => ?_)
    exact B14 _ _ _ _ _ _ _ _ hf H locs hP hD hS ls (lv_sub hl [0, 1, 2, 3, 4] rfl)
set_option maxHeartbeats 4000000 in
set_option maxRecDepth 100000 in
theorem mX5_holds (l : Launch) (D : va_G) (cI cZ : ClassId) (A : Nat → Nat)  (cs : St) (cw : St) (ct : St) (cu : St) (cl : St) (cb : St) (cp : St) (x1 : Int32) (x2 : Int32) (sz : Nat) (res : Int32) (hf : fX5_holds ct cb x1 x2 = some (.inl res)) : Met l yX5_holds wsX5_holds ({ frames := 7, cells := 0, slots := 0, locals := 116 }) (mP D (tysX cI cZ) [.ref (A 0), .int x1, .int x2] (wX5 cI cZ A cs cw ct cu cl cb cp) sz) (mQi D res (wX5 cI cZ A cs cw ct cu cl cb cp) (wX5 cI cZ A cs cw ct cu cl cb cp) sz) 0 0 (va_A (wX5 cI cZ A cs cw ct cu cl cb cp) sz) := by
  refine mkM_i (cc := cX5_holds) (maxL := 3) (own := RX5) (by decide +kernel) rfl rfl (Nat.le_of_ble_eq_true rfl) ?_
  intro p e s m args below meth c A0 Q S hK hG hA hR
  obtain ⟨hx, hb, hml, hown, hts⟩ := id S
  have k21 := hts (.fieldLink RX5 21 "SwitchFloor" "tree" "LSwitchFloor$Tree;") (by decide +kernel)
  have iX5 : ∀ w ∈ wsX50, w ∈ wsX5_holds := by decide +kernel
  have k181 := hts (.fieldLink RX5 181 "SwitchFloor$Tree" "root" "[I") (by decide +kernel)
  have iX3 : ∀ w ∈ wsX30, w ∈ wsX5_holds := by decide +kernel
  have k184 := hts (.fieldLink RX5 184 "SwitchFloor$Tree" "cost" "[I") (by decide +kernel)
  have k187 := hts (.fieldLink RX5 187 "SwitchFloor$Tree" "hops" "[I") (by decide +kernel)
  have k190 := hts (.fieldLink RX5 190 "SwitchFloor$Tree" "rootPort" "[I") (by decide +kernel)
  have k38 := hts (.fieldLink RX5 38 "SwitchFloor" "tables" "LSwitchFloor$Tables;") (by decide +kernel)
  have k193 := hts (.fieldLink RX5 193 "SwitchFloor$Tables" "entries" "[I") (by decide +kernel)
  have iX2 : ∀ w ∈ wsX20, w ∈ wsX5_holds := by decide +kernel
  intro H locs hP hD hS ls hl
  have hl : lv_has ls 3 [(0, .ref (A 0)), (1, .int x1), (2, .int x2)] := hl
  unfold fX5_holds at hf
  refine lv_iload_n hx hb dX5_holds_0 rfl (lv_at hl 1 rfl) ?_
  obtain ⟨q1, h1, hf⟩ := bx_l hf
  refine cl_v (va_runS (As := [.int x1]) (rest := []) S (mX5_needSwitch l D cI cZ x1 H.size q1 h1) (va_cwS 1 hts gX5_holds_X5_needSwitch rfl rfl rfl (by decide +kernel) ⟨Nat.le_of_ble_eq_true rfl, Nat.le_of_ble_eq_true rfl⟩) (mP_S (Cut.nil _) hP hD hK hG) rfl rfl hl.1 rfl (lv_room (Nat.le_of_ble_eq_true rfl)) dX5_holds_1 ⟨Nat.le_refl _, Nat.le_refl _⟩) (Cut.nil _) hP hD hS hA (fun H locs hP hD hS => ?_)
  refine lv_iload_n hx hb dX5_holds_4 rfl (lv_at hl 2 rfl) ?_
  by_cases c5_0 : x2 = 0
  · have hf := if_t c5_0 hf
    refine lv_tableIn (off := 35) (tgt := 40) hx hb dX5_holds_5 (by rw [c5_0]; decide) (by rw [c5_0]; decide) (by rw [c5_0]; decide) (by decide) ?_
    refine lv_aload_n hx hb dX5_holds_40 rfl (lv_at hl 0 rfl) ?_
    refine ld_f S iX5 hK hP 0 1 (.ref (A 11)) (gX5_0 _ _ _ _ _ _ _ _ _ _) rfl (by decide) k21 rfl rfl dX5_holds_41 ?_
    refine ld_f S iX3 hK hP 11 1 (.ref (A 12)) (gX5_11 _ _ _ _ _ _ _ _ _ _) rfl (by decide) k181 rfl rfl dX5_holds_44 ?_
    refine lv_iload_n hx hb dX5_holds_47 rfl (lv_at hl 1 rfl) ?_
    obtain ⟨c48, hf⟩ := ck_t hf
    refine va_iald (f := ct 1) hx hb hK hP 12 0 (gX5_12 _ _ _ _ _ _ _ _ _ _) rfl (inb_in c48) dX5_holds_48 ?_
    exact hR _ ls H locs _ _ (congrArg (fun q => q) (Sum.inl.inj (Option.some.inj hf))) rfl rfl dX5_holds_49 hP hD hS
  have hf := if_f c5_0 hf
  by_cases c5_1 : x2 = 1
  · have hf := if_t c5_1 hf
    refine lv_tableIn (off := 45) (tgt := 50) hx hb dX5_holds_5 (by rw [c5_1]; decide) (by rw [c5_1]; decide) (by rw [c5_1]; decide) (by decide) ?_
    refine lv_aload_n hx hb dX5_holds_50 rfl (lv_at hl 0 rfl) ?_
    refine ld_f S iX5 hK hP 0 1 (.ref (A 11)) (gX5_0 _ _ _ _ _ _ _ _ _ _) rfl (by decide) k21 rfl rfl dX5_holds_51 ?_
    refine ld_f S iX3 hK hP 11 2 (.ref (A 13)) (gX5_11 _ _ _ _ _ _ _ _ _ _) rfl (by decide) k184 rfl rfl dX5_holds_54 ?_
    refine lv_iload_n hx hb dX5_holds_57 rfl (lv_at hl 1 rfl) ?_
    obtain ⟨c58, hf⟩ := ck_t hf
    refine va_iald (f := ct 2) hx hb hK hP 13 0 (gX5_13 _ _ _ _ _ _ _ _ _ _) rfl (inb_in c58) dX5_holds_58 ?_
    exact hR _ ls H locs _ _ (congrArg (fun q => q) (Sum.inl.inj (Option.some.inj hf))) rfl rfl dX5_holds_59 hP hD hS
  have hf := if_f c5_1 hf
  by_cases c5_2 : x2 = 2
  · have hf := if_t c5_2 hf
    refine lv_tableIn (off := 55) (tgt := 60) hx hb dX5_holds_5 (by rw [c5_2]; decide) (by rw [c5_2]; decide) (by rw [c5_2]; decide) (by decide) ?_
    refine lv_aload_n hx hb dX5_holds_60 rfl (lv_at hl 0 rfl) ?_
    refine ld_f S iX5 hK hP 0 1 (.ref (A 11)) (gX5_0 _ _ _ _ _ _ _ _ _ _) rfl (by decide) k21 rfl rfl dX5_holds_61 ?_
    refine ld_f S iX3 hK hP 11 3 (.ref (A 14)) (gX5_11 _ _ _ _ _ _ _ _ _ _) rfl (by decide) k187 rfl rfl dX5_holds_64 ?_
    refine lv_iload_n hx hb dX5_holds_67 rfl (lv_at hl 1 rfl) ?_
    obtain ⟨c68, hf⟩ := ck_t hf
    refine va_iald (f := ct 3) hx hb hK hP 14 0 (gX5_14 _ _ _ _ _ _ _ _ _ _) rfl (inb_in c68) dX5_holds_68 ?_
    exact hR _ ls H locs _ _ (congrArg (fun q => q) (Sum.inl.inj (Option.some.inj hf))) rfl rfl dX5_holds_69 hP hD hS
  have hf := if_f c5_2 hf
  by_cases c5_3 : x2 = 3
  · have hf := if_t c5_3 hf
    refine lv_tableIn (off := 65) (tgt := 70) hx hb dX5_holds_5 (by rw [c5_3]; decide) (by rw [c5_3]; decide) (by rw [c5_3]; decide) (by decide) ?_
    refine lv_aload_n hx hb dX5_holds_70 rfl (lv_at hl 0 rfl) ?_
    refine ld_f S iX5 hK hP 0 1 (.ref (A 11)) (gX5_0 _ _ _ _ _ _ _ _ _ _) rfl (by decide) k21 rfl rfl dX5_holds_71 ?_
    refine ld_f S iX3 hK hP 11 4 (.ref (A 15)) (gX5_11 _ _ _ _ _ _ _ _ _ _) rfl (by decide) k190 rfl rfl dX5_holds_74 ?_
    refine lv_iload_n hx hb dX5_holds_77 rfl (lv_at hl 1 rfl) ?_
    obtain ⟨c78, hf⟩ := ck_t hf
    refine va_iald (f := ct 4) hx hb hK hP 15 0 (gX5_15 _ _ _ _ _ _ _ _ _ _) rfl (inb_in c78) dX5_holds_78 ?_
    exact hR _ ls H locs _ _ (congrArg (fun q => q) (Sum.inl.inj (Option.some.inj hf))) rfl rfl dX5_holds_79 hP hD hS
  have hf := if_f c5_3 hf
  by_cases c5_4 : x2 = 4
  · have hf := if_t c5_4 hf
    refine lv_tableIn (off := 75) (tgt := 80) hx hb dX5_holds_5 (by rw [c5_4]; decide) (by rw [c5_4]; decide) (by rw [c5_4]; decide) (by decide) ?_
    refine lv_aload_n hx hb dX5_holds_80 rfl (lv_at hl 0 rfl) ?_
    refine ld_f S iX5 hK hP 0 4 (.ref (A 44)) (gX5_0 _ _ _ _ _ _ _ _ _ _) rfl (by decide) k38 rfl rfl dX5_holds_81 ?_
    refine ld_f S iX2 hK hP 44 2 (.ref (A 47)) (gX5_44 _ _ _ _ _ _ _ _ _ _) rfl (by decide) k193 rfl rfl dX5_holds_84 ?_
    refine lv_iload_n hx hb dX5_holds_87 rfl (lv_at hl 1 rfl) ?_
    obtain ⟨c88, hf⟩ := ck_t hf
    refine va_iald (f := cb 2) hx hb hK hP 47 0 (gX5_47 _ _ _ _ _ _ _ _ _ _) rfl (inb_in c88) dX5_holds_88 ?_
    exact hR _ ls H locs _ _ (congrArg (fun q => q) (Sum.inl.inj (Option.some.inj hf))) rfl rfl dX5_holds_89 hP hD hS
  have hf := if_f c5_4 hf
  refine lv_tableOut (tgt := 90) hx hb dX5_holds_5 (sw_out 0 4 (fun j h1 h2 => ?_)) (by decide) ?_
  · rcases (show j = 0 ∨ j = 1 ∨ j = 2 ∨ j = 3 ∨ j = 4 by omega) with e9 | e9 | e9 | e9 | e9 <;> subst e9
    · exact fun e => c5_0 (e.trans (by decide))
    · exact fun e => c5_1 (e.trans (by decide))
    · exact fun e => c5_2 (e.trans (by decide))
    · exact fun e => c5_3 (e.trans (by decide))
    · exact fun e => c5_4 (e.trans (by decide))
  cases hf
set_option maxHeartbeats 4000000 in
set_option maxRecDepth 100000 in
theorem mX5_port (l : Launch) (D : va_G) (cI cZ : ClassId) (A : Nat → Nat)  (cs : St) (cw : St) (ct : St) (cu : St) (cl : St) (cb : St) (cp : St) (x1 : Int32) (x2 : Int32) (x3 : Int32) (sz : Nat) (res : Int32) (hf : fX5_port cs ct x1 x2 x3 = some (.inl res)) : Met l yX5_port wsX5_port ({ frames := 8, cells := 0, slots := 0, locals := 137 }) (mP D (tysX cI cZ) [.ref (A 0), .int x1, .int x2, .int x3] (wX5 cI cZ A cs cw ct cu cl cb cp) sz) (mQi D res (wX5 cI cZ A cs cw ct cu cl cb cp) (wX5 cI cZ A cs cw ct cu cl cb cp) sz) 0 0 (va_A (wX5 cI cZ A cs cw ct cu cl cb cp) sz) := by
  refine mkM_i (cc := cX5_port) (maxL := 5) (own := RX5) (by decide +kernel) rfl rfl (Nat.le_of_ble_eq_true rfl) ?_
  intro p e s m args below meth c A0 Q S hK hG hA hR
  obtain ⟨hx, hb, hml, hown, hts⟩ := id S
  have k21 := hts (.fieldLink RX5 21 "SwitchFloor" "tree" "LSwitchFloor$Tree;") (by decide +kernel)
  have iX5 : ∀ w ∈ wsX50, w ∈ wsX5_port := by decide +kernel
  have k198 := hts (.fieldLink RX5 198 "SwitchFloor$Tree" "open" "[Z") (by decide +kernel)
  have iX3 : ∀ w ∈ wsX30, w ∈ wsX5_port := by decide +kernel
  have k202 := hts (.fieldLink RX5 202 "SwitchFloor$Tree" "role" "[I") (by decide +kernel)
  have k49 := hts (.fieldLink RX5 49 "SwitchFloor" "floods" "[I") (by decide +kernel)
  intro H locs hP hD hS ls hl
  have hl : lv_has ls 5 [(0, .ref (A 0)), (1, .int x1), (2, .int x2), (3, .int x3)] := hl
  unfold fX5_port at hf
  refine lv_iload_n hx hb dX5_port_0 rfl (lv_at hl 1 rfl) ?_
  refine lv_iload_n hx hb dX5_port_1 rfl (lv_at hl 2 rfl) ?_
  obtain ⟨q2, h2, hf⟩ := bx_l hf
  refine cl_v (va_runS (As := [.int x1, .int x2]) (rest := []) S (mX5_needPort l D cI cZ x1 x2 H.size q2 h2) (va_cwS 2 hts gX5_port_X5_needPort rfl rfl rfl (by decide +kernel) ⟨Nat.le_of_ble_eq_true rfl, Nat.le_of_ble_eq_true rfl⟩) (mP_S (Cut.nil _) hP hD hK hG) rfl rfl hl.1 rfl (lv_room (Nat.le_of_ble_eq_true rfl)) dX5_port_2 ⟨Nat.le_refl _, Nat.le_refl _⟩) (Cut.nil _) hP hD hS hA (fun H locs hP hD hS => ?_)
  refine lv_iload_n hx hb dX5_port_5 rfl (lv_at hl 1 rfl) ?_
  refine lv_iload_n hx hb dX5_port_6 rfl (lv_at hl 2 rfl) ?_
  obtain ⟨q7, h7, hf⟩ := bd_t hf
  refine cl_i (va_runS (As := [.int x1, .int x2]) (rest := []) S (mX5_spotOf l D cI cZ x1 x2 H.size q7 h7) (va_cwS 2 hts gX5_port_X5_spotOf rfl rfl rfl (by decide +kernel) ⟨Nat.le_of_ble_eq_true rfl, Nat.le_of_ble_eq_true rfl⟩) (mP_S (Cut.nil _) hP hD hK hG) rfl rfl hl.1 rfl (lv_room (Nat.le_of_ble_eq_true rfl)) dX5_port_7 ⟨Nat.le_refl _, Nat.le_refl _⟩) (Cut.nil _) hP hD hS hA (fun H locs hP hD hS => ?_)
  refine lv_istore (lv' := [(4, .int q7), (0, .ref (A 0)), (1, .int x1), (2, .int x2), (3, .int x3)]) hx hb dX5_port_10 hl (by decide) rfl (fun ls hl => ?_)
  refine lv_iload_n hx hb dX5_port_12 rfl (lv_at hl 4 rfl) ?_
  by_cases c13_0 : x3 = 0
  · have hf := if_t c13_0 hf
    refine lv_tableIn (off := 31) (tgt := 44) hx hb dX5_port_13 (by rw [c13_0]; decide) (by rw [c13_0]; decide) (by rw [c13_0]; decide) (by decide) ?_
    refine lv_aload_n hx hb dX5_port_44 rfl (lv_at hl 1 rfl) ?_
    refine ld_f S iX5 hK hP 0 1 (.ref (A 11)) (gX5_0 _ _ _ _ _ _ _ _ _ _) rfl (by decide) k21 rfl rfl dX5_port_45 ?_
    refine ld_f S iX3 hK hP 11 6 (.ref (A 17)) (gX5_11 _ _ _ _ _ _ _ _ _ _) rfl (by decide) k198 rfl rfl dX5_port_48 ?_
    refine lv_iload hx hb dX5_port_51 (lv_at hl 0 rfl) ?_
    obtain ⟨c53, hf⟩ := ck_t hf
    refine va_zald (f := ct 6) hx hb hK hP 17 1 (gX5_17 _ _ _ _ _ _ _ _ _ _) rfl (inb_in c53) dX5_port_53 ?_
    refine lv_if_eq (tgt := 61) hx hb dX5_port_54 (by decide) (fun c54 => ?_) (fun c54 => ?_)
    · have hf := if_t c54 hf
      refine lv_iconst (v := 0) hx hb dX5_port_61 (by decide) ?_
      exact hR _ ls H locs _ _ (congrArg (fun q => q) (Sum.inl.inj (Option.some.inj hf))) rfl rfl dX5_port_62 hP hD hS
    · have hf := if_f c54 hf
      refine lv_iconst (v := 1) hx hb dX5_port_57 (by decide) ?_
      refine lv_goto (tgt := 62) hx hb dX5_port_58 (by decide) ?_
      exact hR _ ls H locs _ _ (congrArg (fun q => q) (Sum.inl.inj (Option.some.inj hf))) rfl rfl dX5_port_62 hP hD hS
  have hf := if_f c13_0 hf
  by_cases c13_1 : x3 = 1
  · have hf := if_t c13_1 hf
    refine lv_tableIn (off := 50) (tgt := 63) hx hb dX5_port_13 (by rw [c13_1]; decide) (by rw [c13_1]; decide) (by rw [c13_1]; decide) (by decide) ?_
    refine lv_aload_n hx hb dX5_port_63 rfl (lv_at hl 1 rfl) ?_
    refine ld_f S iX5 hK hP 0 1 (.ref (A 11)) (gX5_0 _ _ _ _ _ _ _ _ _ _) rfl (by decide) k21 rfl rfl dX5_port_64 ?_
    refine ld_f S iX3 hK hP 11 7 (.ref (A 18)) (gX5_11 _ _ _ _ _ _ _ _ _ _) rfl (by decide) k202 rfl rfl dX5_port_67 ?_
    refine lv_iload hx hb dX5_port_70 (lv_at hl 0 rfl) ?_
    obtain ⟨c72, hf⟩ := ck_t hf
    refine va_iald (f := ct 7) hx hb hK hP 18 0 (gX5_18 _ _ _ _ _ _ _ _ _ _) rfl (inb_in c72) dX5_port_72 ?_
    exact hR _ ls H locs _ _ (congrArg (fun q => q) (Sum.inl.inj (Option.some.inj hf))) rfl rfl dX5_port_73 hP hD hS
  have hf := if_f c13_1 hf
  by_cases c13_2 : x3 = 2
  · have hf := if_t c13_2 hf
    refine lv_tableIn (off := 61) (tgt := 74) hx hb dX5_port_13 (by rw [c13_2]; decide) (by rw [c13_2]; decide) (by rw [c13_2]; decide) (by decide) ?_
    refine lv_aload_n hx hb dX5_port_74 rfl (lv_at hl 1 rfl) ?_
    refine ld_f S iX5 hK hP 0 1 (.ref (A 11)) (gX5_0 _ _ _ _ _ _ _ _ _ _) rfl (by decide) k21 rfl rfl dX5_port_75 ?_
    refine lv_iload hx hb dX5_port_78 (lv_at hl 0 rfl) ?_
    obtain ⟨q80, h80, hf⟩ := bd_t hf
    refine cl_i (va_runV (As := [.int q7]) (rest := []) S (mX3_isShut l D cI cZ (aX5_X3_2_1 A) ct cw q7 H.size q80 h80) (cwV 1 hts gX5_port_X3_isShut rfl rfl rfl (by decide +kernel) ⟨Nat.le_of_ble_eq_true rfl, Nat.le_of_ble_eq_true rfl⟩) (mP_V (ci := 3) (cutX5_X3_2_1 _ _ _ _ _ _ _ _ _ _ st0 st0) hP hD hK hG rfl (gX3_0 _ _ _ _ _)) rfl rfl hl.1 rfl (lv_room (Nat.le_of_ble_eq_true rfl)) dX5_port_80 ⟨Nat.le_refl _, Nat.le_refl _⟩) (cutX5_X3_2_1 _ _ _ _ _ _ _ _ _ _ _ _) hP hD hS hA (fun H locs hP hD hS => ?_)
    refine lv_if_eq (tgt := 90) hx hb dX5_port_83 (by decide) (fun c83 => ?_) (fun c83 => ?_)
    · have hf := if_t c83 hf
      refine lv_iconst (v := 0) hx hb dX5_port_90 (by decide) ?_
      exact hR _ ls H locs _ _ (congrArg (fun q => q) (Sum.inl.inj (Option.some.inj hf))) rfl rfl dX5_port_91 hP hD hS
    · have hf := if_f c83 hf
      refine lv_iconst (v := 1) hx hb dX5_port_86 (by decide) ?_
      refine lv_goto (tgt := 91) hx hb dX5_port_87 (by decide) ?_
      exact hR _ ls H locs _ _ (congrArg (fun q => q) (Sum.inl.inj (Option.some.inj hf))) rfl rfl dX5_port_91 hP hD hS
  have hf := if_f c13_2 hf
  by_cases c13_3 : x3 = 3
  · have hf := if_t c13_3 hf
    refine lv_tableIn (off := 79) (tgt := 92) hx hb dX5_port_13 (by rw [c13_3]; decide) (by rw [c13_3]; decide) (by rw [c13_3]; decide) (by decide) ?_
    refine lv_aload_n hx hb dX5_port_92 rfl (lv_at hl 1 rfl) ?_
    refine ld_f S iX5 hK hP 0 6 (.ref (A 1)) (gX5_0 _ _ _ _ _ _ _ _ _ _) rfl (by decide) k49 rfl rfl dX5_port_93 ?_
    refine lv_iload hx hb dX5_port_96 (lv_at hl 0 rfl) ?_
    obtain ⟨c98, hf⟩ := ck_t hf
    refine va_iald (f := cs 6) hx hb hK hP 1 0 (gX5_1 _ _ _ _ _ _ _ _ _ _) rfl (inb_in c98) dX5_port_98 ?_
    exact hR _ ls H locs _ _ (congrArg (fun q => q) (Sum.inl.inj (Option.some.inj hf))) rfl rfl dX5_port_99 hP hD hS
  have hf := if_f c13_3 hf
  refine lv_tableOut (tgt := 100) hx hb dX5_port_13 (sw_out 0 3 (fun j h1 h2 => ?_)) (by decide) ?_
  · rcases (show j = 0 ∨ j = 1 ∨ j = 2 ∨ j = 3 by omega) with e9 | e9 | e9 | e9 <;> subst e9
    · exact fun e => c13_0 (e.trans (by decide))
    · exact fun e => c13_1 (e.trans (by decide))
    · exact fun e => c13_2 (e.trans (by decide))
    · exact fun e => c13_3 (e.trans (by decide))
  cases hf
set_option maxHeartbeats 4000000 in
set_option maxRecDepth 100000 in
theorem mX5_table (l : Launch) (D : va_G) (cI cZ : ClassId) (A : Nat → Nat)  (cs : St) (cw : St) (ct : St) (cu : St) (cl : St) (cb : St) (cp : St) (x1 : Int32) (x2 : Int32) (x3 : Int32) (sz : Nat) (res : Int32) (hf : fX5_table cb x1 x2 x3 = some (.inl res)) : Met l yX5_table wsX5_table ({ frames := 7, cells := 0, slots := 0, locals := 116 }) (mP D (tysX cI cZ) [.ref (A 0), .int x1, .int x2, .int x3] (wX5 cI cZ A cs cw ct cu cl cb cp) sz) (mQi D res (wX5 cI cZ A cs cw ct cu cl cb cp) (wX5 cI cZ A cs cw ct cu cl cb cp) sz) 0 0 (va_A (wX5 cI cZ A cs cw ct cu cl cb cp) sz) := by
  refine mkM_i (cc := cX5_table) (maxL := 4) (own := RX5) (by decide +kernel) rfl rfl (Nat.le_of_ble_eq_true rfl) ?_
  intro p e s m args below meth c A0 Q S hK hG hA hR
  obtain ⟨hx, hb, hml, hown, hts⟩ := id S
  have k38 := hts (.fieldLink RX5 38 "SwitchFloor" "tables" "LSwitchFloor$Tables;") (by decide +kernel)
  have iX5 : ∀ w ∈ wsX50, w ∈ wsX5_table := by decide +kernel
  intro H locs hP hD hS ls hl
  have hl : lv_has ls 4 [(0, .ref (A 0)), (1, .int x1), (2, .int x2), (3, .int x3)] := hl
  unfold fX5_table at hf
  refine lv_iload_n hx hb dX5_table_0 rfl (lv_at hl 1 rfl) ?_
  obtain ⟨q1, h1, hf⟩ := bx_l hf
  refine cl_v (va_runS (As := [.int x1]) (rest := []) S (mX5_needSwitch l D cI cZ x1 H.size q1 h1) (va_cwS 1 hts gX5_table_X5_needSwitch rfl rfl rfl (by decide +kernel) ⟨Nat.le_of_ble_eq_true rfl, Nat.le_of_ble_eq_true rfl⟩) (mP_S (Cut.nil _) hP hD hK hG) rfl rfl hl.1 rfl (lv_room (Nat.le_of_ble_eq_true rfl)) dX5_table_1 ⟨Nat.le_refl _, Nat.le_refl _⟩) (Cut.nil _) hP hD hS hA (fun H locs hP hD hS => ?_)
  refine lv_iload_n hx hb dX5_table_4 rfl (lv_at hl 2 rfl) ?_
  obtain ⟨q5, h5, hf⟩ := bx_l hf
  refine cl_v (va_runS (As := [.int x2]) (rest := []) S (mX5_needLane l D cI cZ x2 H.size q5 h5) (va_cwS 1 hts gX5_table_X5_needLane rfl rfl rfl (by decide +kernel) ⟨Nat.le_of_ble_eq_true rfl, Nat.le_of_ble_eq_true rfl⟩) (mP_S (Cut.nil _) hP hD hK hG) rfl rfl hl.1 rfl (lv_room (Nat.le_of_ble_eq_true rfl)) dX5_table_5 ⟨Nat.le_refl _, Nat.le_refl _⟩) (Cut.nil _) hP hD hS hA (fun H locs hP hD hS => ?_)
  refine lv_iload_n hx hb dX5_table_8 rfl (lv_at hl 3 rfl) ?_
  obtain ⟨q9, h9, hf⟩ := bx_l hf
  refine cl_v (va_runS (As := [.int x3]) (rest := []) S (mX5_needHouse l D cI cZ x3 H.size q9 h9) (va_cwS 1 hts gX5_table_X5_needHouse rfl rfl rfl (by decide +kernel) ⟨Nat.le_of_ble_eq_true rfl, Nat.le_of_ble_eq_true rfl⟩) (mP_S (Cut.nil _) hP hD hK hG) rfl rfl hl.1 rfl (lv_room (Nat.le_of_ble_eq_true rfl)) dX5_table_9 ⟨Nat.le_refl _, Nat.le_refl _⟩) (Cut.nil _) hP hD hS hA (fun H locs hP hD hS => ?_)
  refine lv_aload_n hx hb dX5_table_12 rfl (lv_at hl 0 rfl) ?_
  refine ld_f S iX5 hK hP 0 4 (.ref (A 44)) (gX5_0 _ _ _ _ _ _ _ _ _ _) rfl (by decide) k38 rfl rfl dX5_table_13 ?_
  refine lv_iload_n hx hb dX5_table_16 rfl (lv_at hl 1 rfl) ?_
  refine lv_iload_n hx hb dX5_table_17 rfl (lv_at hl 2 rfl) ?_
  refine lv_iload_n hx hb dX5_table_18 rfl (lv_at hl 3 rfl) ?_
  obtain ⟨q19, h19, hf⟩ := bd_t hf
  refine cl_i (va_runV (As := [.int x1, .int x2, .int x3]) (rest := []) S (mX2_portFor l D cI cZ (aX5_X2_5 A) cb x1 x2 x3 H.size q19 h19) (cwV 3 hts gX5_table_X2_portFor rfl rfl rfl (by decide +kernel) ⟨Nat.le_of_ble_eq_true rfl, Nat.le_of_ble_eq_true rfl⟩) (mP_V (ci := 2) (cutX5_X2_5 _ _ _ _ _ _ _ _ _ _ st0) hP hD hK hG rfl (gX2_0 _ _ _ _)) rfl rfl hl.1 rfl (lv_room (Nat.le_of_ble_eq_true rfl)) dX5_table_19 ⟨Nat.le_refl _, Nat.le_refl _⟩) (cutX5_X2_5 _ _ _ _ _ _ _ _ _ _ _) hP hD hS hA (fun H locs hP hD hS => ?_)
  exact hR _ ls H locs _ _ (congrArg (fun q => q) (Sum.inl.inj (Option.some.inj hf))) rfl rfl dX5_table_22 hP hD hS
set_option maxHeartbeats 4000000 in
set_option maxRecDepth 100000 in
theorem mX5_got (l : Launch) (D : va_G) (cI cZ : ClassId) (A : Nat → Nat)  (cs : St) (cw : St) (ct : St) (cu : St) (cl : St) (cb : St) (cp : St) (x1 : Int32) (x2 : Int32) (sz : Nat) (res : Int32) (hf : fX5_got cs x1 x2 = some (.inl res)) : Met l yX5_got wsX5_got ({ frames := 7, cells := 0, slots := 0, locals := 116 }) (mP D (tysX cI cZ) [.ref (A 0), .int x1, .int x2] (wX5 cI cZ A cs cw ct cu cl cb cp) sz) (mQi D res (wX5 cI cZ A cs cw ct cu cl cb cp) (wX5 cI cZ A cs cw ct cu cl cb cp) sz) 0 0 (va_A (wX5 cI cZ A cs cw ct cu cl cb cp) sz) := by
  refine mkM_i (cc := cX5_got) (maxL := 3) (own := RX5) (by decide +kernel) rfl rfl (Nat.le_of_ble_eq_true rfl) ?_
  intro p e s m args below meth c A0 Q S hK hG hA hR
  obtain ⟨hx, hb, hml, hown, hts⟩ := id S
  have k53 := hts (.fieldLink RX5 53 "SwitchFloor" "gotFrames" "[I") (by decide +kernel)
  have iX5 : ∀ w ∈ wsX50, w ∈ wsX5_got := by decide +kernel
  have k56 := hts (.fieldLink RX5 56 "SwitchFloor" "overheardFrames" "[I") (by decide +kernel)
  intro H locs hP hD hS ls hl
  have hl : lv_has ls 3 [(0, .ref (A 0)), (1, .int x1), (2, .int x2)] := hl
  unfold fX5_got at hf
  refine lv_iload_n hx hb dX5_got_0 rfl (lv_at hl 1 rfl) ?_
  obtain ⟨q1, h1, hf⟩ := bx_l hf
  refine cl_v (va_runS (As := [.int x1]) (rest := []) S (mX5_needHouse l D cI cZ x1 H.size q1 h1) (va_cwS 1 hts gX5_got_X5_needHouse rfl rfl rfl (by decide +kernel) ⟨Nat.le_of_ble_eq_true rfl, Nat.le_of_ble_eq_true rfl⟩) (mP_S (Cut.nil _) hP hD hK hG) rfl rfl hl.1 rfl (lv_room (Nat.le_of_ble_eq_true rfl)) dX5_got_1 ⟨Nat.le_refl _, Nat.le_refl _⟩) (Cut.nil _) hP hD hS hA (fun H locs hP hD hS => ?_)
  refine lv_iload_n hx hb dX5_got_4 rfl (lv_at hl 2 rfl) ?_
  refine lv_if_eq (tgt := 17) hx hb dX5_got_5 (by decide) (fun c5 => ?_) (fun c5 => ?_)
  · have hf := if_t c5 hf
    refine lv_aload_n hx hb dX5_got_17 rfl (lv_at hl 0 rfl) ?_
    refine ld_f S iX5 hK hP 0 7 (.ref (A 2)) (gX5_0 _ _ _ _ _ _ _ _ _ _) rfl (by decide) k53 rfl rfl dX5_got_18 ?_
    refine lv_iload_n hx hb dX5_got_21 rfl (lv_at hl 1 rfl) ?_
    obtain ⟨c22, hf⟩ := ck_t hf
    refine va_iald (f := cs 7) hx hb hK hP 2 0 (gX5_2 _ _ _ _ _ _ _ _ _ _) rfl (inb_in c22) dX5_got_22 ?_
    exact hR _ ls H locs _ _ (congrArg (fun q => q) (Sum.inl.inj (Option.some.inj hf))) rfl rfl dX5_got_23 hP hD hS
  · have hf := if_f c5 hf
    refine lv_aload_n hx hb dX5_got_8 rfl (lv_at hl 0 rfl) ?_
    refine ld_f S iX5 hK hP 0 8 (.ref (A 3)) (gX5_0 _ _ _ _ _ _ _ _ _ _) rfl (by decide) k56 rfl rfl dX5_got_9 ?_
    refine lv_iload_n hx hb dX5_got_12 rfl (lv_at hl 1 rfl) ?_
    obtain ⟨c13, hf⟩ := ck_t hf
    refine va_iald (f := cs 8) hx hb hK hP 3 0 (gX5_3 _ _ _ _ _ _ _ _ _ _) rfl (inb_in c13) dX5_got_13 ?_
    refine lv_goto (tgt := 23) hx hb dX5_got_14 (by decide) ?_
    exact hR _ ls H locs _ _ (congrArg (fun q => q) (Sum.inl.inj (Option.some.inj hf))) rfl rfl dX5_got_23 hP hD hS
set_option maxHeartbeats 4000000 in
set_option maxRecDepth 100000 in
theorem mX5_isAtRest (l : Launch) (D : va_G) (cI cZ : ClassId) (A : Nat → Nat)  (cs : St) (cw : St) (ct : St) (cu : St) (cl : St) (cb : St) (cp : St) (sz : Nat) (res : Int32 × St) (hf : fX5_isAtRest cw ct cu = some res) : Met l yX5_isAtRest wsX5_isAtRest ({ frames := 5, cells := 0, slots := 0, locals := 114 }) (mP D (tysX cI cZ) [.ref (A 0)] (wX5 cI cZ A cs cw ct cu cl cb cp) sz) (mQi D res.1 (wX5 cI cZ A cs cw ct cu cl cb cp) (wX5 cI cZ A cs cw ct (res.2) cl cb cp) sz) 0 0 (va_A (wX5 cI cZ A cs cw ct cu cl cb cp) sz) := by
  refine mkM_i (cc := cX5_isAtRest) (maxL := 1) (own := RX5) (by decide +kernel) rfl rfl (Nat.le_of_ble_eq_true rfl) ?_
  intro p e s m args below meth c A0 Q S hK hG hA hR
  obtain ⟨hx, hb, hml, hown, hts⟩ := id S
  have k25 := hts (.fieldLink RX5 25 "SwitchFloor" "ahead" "LSwitchFloor$Tree;") (by decide +kernel)
  have iX5 : ∀ w ∈ wsX50, w ∈ wsX5_isAtRest := by decide +kernel
  have k21 := hts (.fieldLink RX5 21 "SwitchFloor" "tree" "LSwitchFloor$Tree;") (by decide +kernel)
  intro H locs hP hD hS ls hl
  have hl : lv_has ls 1 [(0, .ref (A 0))] := hl
  unfold fX5_isAtRest at hf
  refine lv_aload_n hx hb dX5_isAtRest_0 rfl (lv_at hl 0 rfl) ?_
  refine ld_f S iX5 hK hP 0 2 (.ref (A 26)) (gX5_0 _ _ _ _ _ _ _ _ _ _) rfl (by decide) k25 rfl rfl dX5_isAtRest_1 ?_
  refine lv_aload_n hx hb dX5_isAtRest_4 rfl (lv_at hl 0 rfl) ?_
  refine ld_f S iX5 hK hP 0 1 (.ref (A 11)) (gX5_0 _ _ _ _ _ _ _ _ _ _) rfl (by decide) k21 rfl rfl dX5_isAtRest_5 ?_
  obtain ⟨q8, h8, hf⟩ := bd_t hf
  refine cl_v (va_runV (As := [.ref (A 11)]) (rest := []) S (mX3_copyFrom l D cI cZ (aX5_X3b_3_1_2 A) cu cw ct H.size q8 h8) (cwV 1 hts gX5_isAtRest_X3_copyFrom rfl rfl rfl (by decide +kernel) ⟨Nat.le_of_ble_eq_true rfl, Nat.le_of_ble_eq_true rfl⟩) (mP_V (ci := 3) (cutX5_X3b_3_1_2 _ _ _ _ _ _ _ _ _ _ st0 st0 st0) hP hD hK hG rfl (gX3b_0 _ _ _ _ _ _)) rfl rfl hl.1 rfl (lv_room (Nat.le_of_ble_eq_true rfl)) dX5_isAtRest_8 ⟨Nat.le_refl _, Nat.le_refl _⟩) (cutX5_X3b_3_1_2 _ _ _ _ _ _ _ _ _ _ _ _ _) hP hD hS hA (fun H locs hP hD hS => ?_)
  refine lv_aload_n hx hb dX5_isAtRest_11 rfl (lv_at hl 0 rfl) ?_
  refine ld_f S iX5 hK hP 0 2 (.ref (A 26)) (gX5_0 _ _ _ _ _ _ _ _ _ _) rfl (by decide) k25 rfl rfl dX5_isAtRest_12 ?_
  obtain ⟨q15, h15, hf⟩ := bd_t hf
  refine cl_v (va_runV (As := []) (rest := []) S (mX3_pass l D cI cZ (aX5_X3_3_1 A) q8 cw H.size q15 h15) (cwV 0 hts gX5_isAtRest_X3_pass rfl rfl rfl (by decide +kernel) ⟨Nat.le_of_ble_eq_true rfl, Nat.le_of_ble_eq_true rfl⟩) (mP_V (ci := 3) (cutX5_X3_3_1 _ _ _ _ _ _ _ _ _ _ st0 st0) hP hD hK hG rfl (gX3_0 _ _ _ _ _)) rfl rfl hl.1 rfl (lv_room (Nat.le_of_ble_eq_true rfl)) dX5_isAtRest_15 ⟨Nat.le_refl _, Nat.le_refl _⟩) (cutX5_X3_3_1 _ _ _ _ _ _ _ _ _ _ _ _) hP hD hS hA (fun H locs hP hD hS => ?_)
  refine lv_aload_n hx hb dX5_isAtRest_18 rfl (lv_at hl 0 rfl) ?_
  refine ld_f S iX5 hK hP 0 2 (.ref (A 26)) (gX5_0 _ _ _ _ _ _ _ _ _ _) rfl (by decide) k25 rfl rfl dX5_isAtRest_19 ?_
  refine lv_aload_n hx hb dX5_isAtRest_22 rfl (lv_at hl 0 rfl) ?_
  refine ld_f S iX5 hK hP 0 1 (.ref (A 11)) (gX5_0 _ _ _ _ _ _ _ _ _ _) rfl (by decide) k21 rfl rfl dX5_isAtRest_23 ?_
  obtain ⟨q26, h26, hf⟩ := bd_t hf
  refine cl_i (va_runV (As := [.ref (A 11)]) (rest := []) S (mX3_looksLike l D cI cZ (aX5_X3b_3_1_2 A) q15 cw ct H.size q26 h26) (cwV 1 hts gX5_isAtRest_X3_looksLike rfl rfl rfl (by decide +kernel) ⟨Nat.le_of_ble_eq_true rfl, Nat.le_of_ble_eq_true rfl⟩) (mP_V (ci := 3) (cutX5_X3b_3_1_2 _ _ _ _ _ _ _ _ _ _ st0 st0 st0) hP hD hK hG rfl (gX3b_0 _ _ _ _ _ _)) rfl rfl hl.1 rfl (lv_room (Nat.le_of_ble_eq_true rfl)) dX5_isAtRest_26 ⟨Nat.le_refl _, Nat.le_refl _⟩) (cutX5_X3b_3_1_2 _ _ _ _ _ _ _ _ _ _ _ _ _) hP hD hS hA (fun H locs hP hD hS => ?_)
  refine lv_if_eq (tgt := 46) hx hb dX5_isAtRest_29 (by decide) (fun c29 => ?_) (fun c29 => ?_)
  · have hf := if_t c29 hf
    refine lv_iconst (v := 0) hx hb dX5_isAtRest_46 (by decide) ?_
    exact hR _ ls H locs _ _ (congrArg (fun q => q.1) (Option.some.inj hf)) (congrArg (fun q => (wX5 cI cZ A cs cw ct (q.2) cl cb cp)) (Option.some.inj hf)) (by decide) dX5_isAtRest_47 hP hD hS
  · have hf := if_f c29 hf
    refine lv_aload_n hx hb dX5_isAtRest_32 rfl (lv_at hl 0 rfl) ?_
    refine ld_f S iX5 hK hP 0 2 (.ref (A 26)) (gX5_0 _ _ _ _ _ _ _ _ _ _) rfl (by decide) k25 rfl rfl dX5_isAtRest_33 ?_
    obtain ⟨q36, h36, hf⟩ := bd_t hf
    refine cl_i (va_runV (As := []) (rest := []) S (mX3_hasWaitingPort l D cI cZ (aX5_X3_3_1 A) q15 cw H.size q36 h36) (cwV 0 hts gX5_isAtRest_X3_hasWaitingPort rfl rfl rfl (by decide +kernel) ⟨Nat.le_of_ble_eq_true rfl, Nat.le_of_ble_eq_true rfl⟩) (mP_V (ci := 3) (cutX5_X3_3_1 _ _ _ _ _ _ _ _ _ _ st0 st0) hP hD hK hG rfl (gX3_0 _ _ _ _ _)) rfl rfl hl.1 rfl (lv_room (Nat.le_of_ble_eq_true rfl)) dX5_isAtRest_36 ⟨Nat.le_refl _, Nat.le_refl _⟩) (cutX5_X3_3_1 _ _ _ _ _ _ _ _ _ _ _ _) hP hD hS hA (fun H locs hP hD hS => ?_)
    refine lv_if_ne (tgt := 46) hx hb dX5_isAtRest_39 (by decide) (fun c39 => ?_) (fun c39 => ?_)
    · have hf := if_f c39 hf
      refine lv_iconst (v := 0) hx hb dX5_isAtRest_46 (by decide) ?_
      exact hR _ ls H locs _ _ (congrArg (fun q => q.1) (Option.some.inj hf)) (congrArg (fun q => (wX5 cI cZ A cs cw ct (q.2) cl cb cp)) (Option.some.inj hf)) (by decide) dX5_isAtRest_47 hP hD hS
    · have hf := if_t c39 hf
      refine lv_iconst (v := 1) hx hb dX5_isAtRest_42 (by decide) ?_
      refine lv_goto (tgt := 47) hx hb dX5_isAtRest_43 (by decide) ?_
      exact hR _ ls H locs _ _ (congrArg (fun q => q.1) (Option.some.inj hf)) (congrArg (fun q => (wX5 cI cZ A cs cw ct (q.2) cl cb cp)) (Option.some.inj hf)) (by decide) dX5_isAtRest_47 hP hD hS
set_option maxHeartbeats 4000000 in
set_option maxRecDepth 100000 in
theorem mX5_found (l : Launch) (D : va_G) (cI cZ : ClassId) (A : Nat → Nat)  (cs : St) (cw : St) (ct : St) (cu : St) (cl : St) (cb : St) (cp : St) (x1 : Int32) (sz : Nat) (res : Int32 × St) (hf : fX5_found cw ct x1 = some (.inl res)) : Met l yX5_found wsX5_found ({ frames := 7, cells := 0, slots := 0, locals := 116 }) (mP D (tysX cI cZ) [.ref (A 0), .int x1] (wX5 cI cZ A cs cw ct cu cl cb cp) sz) (mQi D res.1 (wX5 cI cZ A cs cw ct cu cl cb cp) (wX5 cI cZ A cs cw (res.2) cu cl cb cp) sz) 0 0 (va_A (wX5 cI cZ A cs cw ct cu cl cb cp) sz) := by
  refine mkM_i (cc := cX5_found) (maxL := 4) (own := RX5) (by decide +kernel) rfl rfl (Nat.le_of_ble_eq_true rfl) ?_
  intro p e s m args below meth c A0 Q S hK hG hA hR
  obtain ⟨hx, hb, hml, hown, hts⟩ := id S
  have k21 := hts (.fieldLink RX5 21 "SwitchFloor" "tree" "LSwitchFloor$Tree;") (by decide +kernel)
  have iX5 : ∀ w ∈ wsX50, w ∈ wsX5_found := by decide +kernel
  have k228 := hts (.fieldLink RX5 228 "SwitchFloor$Tree" "way" "[I") (by decide +kernel)
  have iX3 : ∀ w ∈ wsX30, w ∈ wsX5_found := by decide +kernel
  have k12 := hts (.fieldLink RX5 12 "SwitchFloor" "wiring" "LSwitchFloor$Wiring;") (by decide +kernel)
  have B55 : ∀ (ct : St) (x2 : Int32), fX5_found_J55 cw ct x2 = some (.inl res) → Bk p l e ({ frames := 7, cells := 0, slots := 0, locals := 116 }) s m args below meth c Q A0 D 4 0 0 (wX5 cI cZ A cs cw ct cu cl cb cp) [(0, .ref (A 0)), (2, .int x2)] 55 [] := by
    intro ct x2 hf
    unfold fX5_found_J55 at hf
    intro H locs hP hD hS ls hl
    refine lv_sipush (v := 1000) hx hb dX5_found_55 (by decide) ?_
    refine lv_iload_n hx hb dX5_found_58 rfl (lv_at hl 1 rfl) ?_
    refine lv_imul hx hb dX5_found_59 ?_
    refine lv_aload_n hx hb dX5_found_60 rfl (lv_at hl 0 rfl) ?_
    refine ld_f S iX5 hK hP 0 1 (.ref (A 11)) (gX5_0 _ _ _ _ _ _ _ _ _ _) rfl (by decide) k21 rfl rfl dX5_found_61 ?_
    refine ld_f S iX3 hK hP 11 15 (.ref (A 25)) (gX5_11 _ _ _ _ _ _ _ _ _ _) rfl (by decide) k228 rfl rfl dX5_found_64 ?_
    refine lv_iload_n hx hb dX5_found_67 rfl (lv_at hl 1 rfl) ?_
    obtain ⟨c68, hf⟩ := ck_t hf
    refine va_iald (f := ct 15) hx hb hK hP 25 0 (gX5_25 _ _ _ _ _ _ _ _ _ _) rfl (inb_in c68) dX5_found_68 ?_
    refine lv_iadd hx hb dX5_found_69 ?_
    exact hR _ ls H locs _ _ (congrArg (fun q => q.1) (Sum.inl.inj (Option.some.inj hf))) (congrArg (fun q => (wX5 cI cZ A cs cw (q.2) cu cl cb cp)) (Sum.inl.inj (Option.some.inj hf))) rfl dX5_found_70 hP hD hS
  have B16 : ∀ (ct : St) (x2 : Int32) (x3 : Int32), fX5_found_L16 cw ct x2 x3 = some (.inl res) → Bk p l e ({ frames := 7, cells := 0, slots := 0, locals := 116 }) s m args below meth c Q A0 D 4 0 0 (wX5 cI cZ A cs cw ct cu cl cb cp) [(0, .ref (A 0)), (2, .int x2), (3, .int x3)] 16 [] := by
    intro ct x2 x3 hf
    refine loop_ind (step := (fun k a => fX5_found_S16 k cw ct (a.1) (a.2))) (fun a => Bk p l e ({ frames := 7, cells := 0, slots := 0, locals := 116 }) s m args below meth c Q A0 D 4 0 0 (wX5 cI cZ A cs cw ct cu cl cb cp) [(0, .ref (A 0)), (2, .int (a.1)), (3, .int (a.2))] 16 []) ?_ _ _ hf
    clear hf
    intro k16 hk16 a hf
    obtain ⟨x2_, x3_⟩ := a
    clear x2 x3
    obtain ⟨x2, e_⟩ : ∃ z, z = x2_ := ⟨_, rfl⟩
    subst e_
    obtain ⟨x3, e_⟩ : ∃ z, z = x3_ := ⟨_, rfl⟩
    subst e_
    have hf : fX5_found_S16 k16 cw ct x2 x3 = some (.inl res) := hf
    show Bk p l e ({ frames := 7, cells := 0, slots := 0, locals := 116 }) s m args below meth c Q A0 D 4 0 0 (wX5 cI cZ A cs cw ct cu cl cb cp) [(0, .ref (A 0)), (2, .int x2), (3, .int x3)] 16 []
    unfold fX5_found_S16 at hf
    intro H locs hP hD hS ls hl
    refine lv_iload_n hx hb dX5_found_16 rfl (lv_at hl 2 rfl) ?_
    refine lv_bipush (v := 6) hx hb dX5_found_17 (by decide) ?_
    refine lv_icmp_ge (tgt := 55) hx hb dX5_found_19 (by decide) (fun c19 => ?_) (fun c19 => ?_)
    · have hf := if_t c19 hf
      exact B55 _ _ hf H locs hP hD hS ls (lv_sub hl [0, 1] rfl)
    · have hf := if_f c19 hf
      refine lv_aload_n hx hb dX5_found_22 rfl (lv_at hl 0 rfl) ?_
      refine ld_f S iX5 hK hP 0 1 (.ref (A 11)) (gX5_0 _ _ _ _ _ _ _ _ _ _) rfl (by decide) k21 rfl rfl dX5_found_23 ?_
      refine ld_f S iX3 hK hP 11 15 (.ref (A 25)) (gX5_11 _ _ _ _ _ _ _ _ _ _) rfl (by decide) k228 rfl rfl dX5_found_26 ?_
      refine lv_iload_n hx hb dX5_found_29 rfl (lv_at hl 2 rfl) ?_
      obtain ⟨c30, hf⟩ := ck_t hf
      refine va_iald (f := ct 15) hx hb hK hP 25 0 (gX5_25 _ _ _ _ _ _ _ _ _ _) rfl (inb_in c30) dX5_found_30 ?_
      refine lv_iconst (v := (-1)) hx hb dX5_found_31 (by decide) ?_
      refine lv_icmp_eq (tgt := 49) hx hb dX5_found_32 (by decide) (fun c32 => ?_) (fun c32 => ?_)
      · have hf := if_t c32 hf
        refine lv_iinc (v := x3 + 1) (lv' := [(3, .int (x3 + 1)), (0, .ref (A 0)), (2, .int x2)]) hx hb dX5_found_49 hl (k := 2) rfl rfl (by decide) rfl (fun ls hl => ?_)
        refine lv_goto (tgt := 16) hx hb dX5_found_52 (by decide) ?_
        exact hk16 _ hf H locs hP hD hS ls (lv_sub hl [1, 2, 0] rfl)
      · have hf := if_f c32 hf
        refine lv_aload_n hx hb dX5_found_35 rfl (lv_at hl 0 rfl) ?_
        refine ld_f S iX5 hK hP 0 0 (.ref (A 4)) (gX5_0 _ _ _ _ _ _ _ _ _ _) rfl (by decide) k12 rfl rfl dX5_found_36 ?_
        refine lv_iload_n hx hb dX5_found_39 rfl (lv_at hl 2 rfl) ?_
        refine lv_iload_n hx hb dX5_found_40 rfl (lv_at hl 1 rfl) ?_
        obtain ⟨q41, h41, hf⟩ := bd_t hf
        refine cl_i (va_runV (As := [.int x3, .int x2]) (rest := []) S (mX4_isBetterName l D cI cZ (aX5_X4_1 A) cw x3 x2 H.size q41 h41) (cwV 2 hts gX5_found_X4_isBetterName rfl rfl rfl (by decide +kernel) ⟨Nat.le_of_ble_eq_true rfl, Nat.le_of_ble_eq_true rfl⟩) (mP_V (ci := 4) (cutX5_X4_1 _ _ _ _ _ _ _ _ _ _ st0) hP hD hK hG rfl (gX4_0 _ _ _ _)) rfl rfl hl.1 rfl (lv_room (Nat.le_of_ble_eq_true rfl)) dX5_found_41 ⟨Nat.le_refl _, Nat.le_refl _⟩) (cutX5_X4_1 _ _ _ _ _ _ _ _ _ _ _) hP hD hS hA (fun H locs hP hD hS => ?_)
        refine lv_if_eq (tgt := 49) hx hb dX5_found_44 (by decide) (fun c44 => ?_) (fun c44 => ?_)
        · have hf := if_t c44 hf
          refine lv_iinc (v := x3 + 1) (lv' := [(3, .int (x3 + 1)), (0, .ref (A 0)), (2, .int x2)]) hx hb dX5_found_49 hl (k := 2) rfl rfl (by decide) rfl (fun ls hl => ?_)
          refine lv_goto (tgt := 16) hx hb dX5_found_52 (by decide) ?_
          exact hk16 _ hf H locs hP hD hS ls (lv_sub hl [1, 2, 0] rfl)
        · have hf := if_f c44 hf
          refine lv_iload_n hx hb dX5_found_47 rfl (lv_at hl 2 rfl) ?_
          refine lv_istore_n (lv' := [(2, .int x3), (0, .ref (A 0)), (3, .int x3)]) hx hb dX5_found_48 rfl hl (by decide) rfl (fun ls hl => ?_)
          refine lv_iinc (v := x3 + 1) (lv' := [(3, .int (x3 + 1)), (2, .int x3), (0, .ref (A 0))]) hx hb dX5_found_49 hl (k := 2) rfl rfl (by decide) rfl (fun ls hl => ?_)
          refine lv_goto (tgt := 16) hx hb dX5_found_52 (by decide) ?_
          exact hk16 _ hf H locs hP hD hS ls (lv_sub hl [2, 1, 0] rfl)
  intro H locs hP hD hS ls hl
  have hl : lv_has ls 4 [(0, .ref (A 0)), (1, .int x1)] := hl
  unfold fX5_found at hf
  refine lv_iload_n hx hb dX5_found_0 rfl (lv_at hl 1 rfl) ?_
  obtain ⟨q1, h1, hf⟩ := bx_l hf
  refine cl_v (va_runS (As := [.int x1]) (rest := []) S (mX5_needSwitch l D cI cZ x1 H.size q1 h1) (va_cwS 1 hts gX5_found_X5_needSwitch rfl rfl rfl (by decide +kernel) ⟨Nat.le_of_ble_eq_true rfl, Nat.le_of_ble_eq_true rfl⟩) (mP_S (Cut.nil _) hP hD hK hG) rfl rfl hl.1 rfl (lv_room (Nat.le_of_ble_eq_true rfl)) dX5_found_1 ⟨Nat.le_refl _, Nat.le_refl _⟩) (Cut.nil _) hP hD hS hA (fun H locs hP hD hS => ?_)
  refine lv_aload_n hx hb dX5_found_4 rfl (lv_at hl 0 rfl) ?_
  refine ld_f S iX5 hK hP 0 1 (.ref (A 11)) (gX5_0 _ _ _ _ _ _ _ _ _ _) rfl (by decide) k21 rfl rfl dX5_found_5 ?_
  refine lv_iload_n hx hb dX5_found_8 rfl (lv_at hl 1 rfl) ?_
  obtain ⟨q9, h9, hf⟩ := bd_t hf
  refine cl_v (va_runV (As := [.int x1]) (rest := []) S (mX3_measureWays l D cI cZ (aX5_X3_2_1 A) ct cw x1 H.size q9 h9) (cwV 1 hts gX5_found_X3_measureWays rfl rfl rfl (by decide +kernel) ⟨Nat.le_of_ble_eq_true rfl, Nat.le_of_ble_eq_true rfl⟩) (mP_V (ci := 3) (cutX5_X3_2_1 _ _ _ _ _ _ _ _ _ _ st0 st0) hP hD hK hG rfl (gX3_0 _ _ _ _ _)) rfl rfl hl.1 rfl (lv_room (Nat.le_of_ble_eq_true rfl)) dX5_found_9 ⟨Nat.le_refl _, Nat.le_refl _⟩) (cutX5_X3_2_1 _ _ _ _ _ _ _ _ _ _ _ _) hP hD hS hA (fun H locs hP hD hS => ?_)
  refine lv_iload_n hx hb dX5_found_12 rfl (lv_at hl 1 rfl) ?_
  refine lv_istore_n (lv' := [(2, .int x1), (0, .ref (A 0)), (1, .int x1)]) hx hb dX5_found_13 rfl hl (by decide) rfl (fun ls hl => ?_)
  refine lv_iconst (v := 0) hx hb dX5_found_14 (by decide) ?_
  refine lv_istore_n (lv' := [(3, .int 0), (2, .int x1), (0, .ref (A 0)), (1, .int x1)]) hx hb dX5_found_15 rfl hl (by decide) rfl (fun ls hl => ?_)
  exact B16 _ _ _ hf H locs hP hD hS ls (lv_sub hl [2, 1, 0] rfl)
set_option maxHeartbeats 4000000 in
set_option maxRecDepth 100000 in
theorem mX5_wayTold (l : Launch) (D : va_G) (cI cZ : ClassId) (A : Nat → Nat)  (cs : St) (cw : St) (ct : St) (cu : St) (cl : St) (cb : St) (cp : St) (x1 : Int32) (x2 : Int32) (x3 : Int32) (sz : Nat) (res : Int32) (hf : fX5_wayTold ct cl cb x1 x2 x3 = some res) : Met l yX5_wayTold wsX5_wayTold ({ frames := 2, cells := 0, slots := 0, locals := 45 }) (mP D (tysX cI cZ) [.ref (A 0), .int x1, .int x2, .int x3] (wX5 cI cZ A cs cw ct cu cl cb cp) sz) (mQi D res (wX5 cI cZ A cs cw ct cu cl cb cp) (wX5 cI cZ A cs cw ct cu cl cb cp) sz) 0 0 (va_A (wX5 cI cZ A cs cw ct cu cl cb cp) sz) := by
  refine mkM_i (cc := cX5_wayTold) (maxL := 6) (own := RX5) (by decide +kernel) rfl rfl (Nat.le_of_ble_eq_true rfl) ?_
  intro p e s m args below meth c A0 Q S hK hG hA hR
  obtain ⟨hx, hb, hml, hown, hts⟩ := id S
  have k38 := hts (.fieldLink RX5 38 "SwitchFloor" "tables" "LSwitchFloor$Tables;") (by decide +kernel)
  have iX5 : ∀ w ∈ wsX50, w ∈ wsX5_wayTold := by decide +kernel
  have k21 := hts (.fieldLink RX5 21 "SwitchFloor" "tree" "LSwitchFloor$Tree;") (by decide +kernel)
  have k198 := hts (.fieldLink RX5 198 "SwitchFloor$Tree" "open" "[Z") (by decide +kernel)
  have iX3 : ∀ w ∈ wsX30, w ∈ wsX5_wayTold := by decide +kernel
  have k31 := hts (.fieldLink RX5 31 "SwitchFloor" "lanes" "LSwitchFloor$Lanes;") (by decide +kernel)
  intro H locs hP hD hS ls hl
  have hl : lv_has ls 6 [(0, .ref (A 0)), (1, .int x1), (2, .int x2), (3, .int x3)] := hl
  unfold fX5_wayTold at hf
  refine lv_aload_n hx hb dX5_wayTold_0 rfl (lv_at hl 0 rfl) ?_
  refine ld_f S iX5 hK hP 0 4 (.ref (A 44)) (gX5_0 _ _ _ _ _ _ _ _ _ _) rfl (by decide) k38 rfl rfl dX5_wayTold_1 ?_
  refine lv_iload_n hx hb dX5_wayTold_4 rfl (lv_at hl 1 rfl) ?_
  refine lv_iload_n hx hb dX5_wayTold_5 rfl (lv_at hl 2 rfl) ?_
  refine lv_iload_n hx hb dX5_wayTold_6 rfl (lv_at hl 3 rfl) ?_
  obtain ⟨q7, h7, hf⟩ := bd_t hf
  refine cl_i (va_runV (As := [.int x1, .int x2, .int x3]) (rest := []) S (mX2_portFor l D cI cZ (aX5_X2_5 A) cb x1 x2 x3 H.size q7 h7) (cwV 3 hts gX5_wayTold_X2_portFor rfl rfl rfl (by decide +kernel) ⟨Nat.le_of_ble_eq_true rfl, Nat.le_of_ble_eq_true rfl⟩) (mP_V (ci := 2) (cutX5_X2_5 _ _ _ _ _ _ _ _ _ _ st0) hP hD hK hG rfl (gX2_0 _ _ _ _)) rfl rfl hl.1 rfl (lv_room (Nat.le_of_ble_eq_true rfl)) dX5_wayTold_7 ⟨Nat.le_refl _, Nat.le_refl _⟩) (cutX5_X2_5 _ _ _ _ _ _ _ _ _ _ _) hP hD hS hA (fun H locs hP hD hS => ?_)
  refine lv_istore (lv' := [(4, .int q7), (0, .ref (A 0)), (1, .int x1), (2, .int x2), (3, .int x3)]) hx hb dX5_wayTold_10 hl (by decide) rfl (fun ls hl => ?_)
  refine lv_iload hx hb dX5_wayTold_12 (lv_at hl 0 rfl) ?_
  refine lv_iconst (v := (-1)) hx hb dX5_wayTold_14 (by decide) ?_
  refine lv_icmp_ne (tgt := 20) hx hb dX5_wayTold_15 (by decide) (fun c15 => ?_) (fun c15 => ?_)
  · have hf := if_f c15 hf
    refine lv_iload_n hx hb dX5_wayTold_20 rfl (lv_at hl 2 rfl) ?_
    refine lv_iload hx hb dX5_wayTold_21 (lv_at hl 0 rfl) ?_
    obtain ⟨q23, h23, hf⟩ := bd_t hf
    refine cl_i (va_runS (As := [.int x1, .int q7]) (rest := []) S (mX5_spotOf l D cI cZ x1 q7 H.size q23 h23) (va_cwS 2 hts gX5_wayTold_X5_spotOf rfl rfl rfl (by decide +kernel) ⟨Nat.le_of_ble_eq_true rfl, Nat.le_of_ble_eq_true rfl⟩) (mP_S (Cut.nil _) hP hD hK hG) rfl rfl hl.1 rfl (lv_room (Nat.le_of_ble_eq_true rfl)) dX5_wayTold_23 ⟨Nat.le_refl _, Nat.le_refl _⟩) (Cut.nil _) hP hD hS hA (fun H locs hP hD hS => ?_)
    refine lv_istore (lv' := [(5, .int q23), (4, .int q7), (0, .ref (A 0)), (1, .int x1), (2, .int x2), (3, .int x3)]) hx hb dX5_wayTold_26 hl (by decide) rfl (fun ls hl => ?_)
    refine lv_aload_n hx hb dX5_wayTold_28 rfl (lv_at hl 2 rfl) ?_
    refine ld_f S iX5 hK hP 0 1 (.ref (A 11)) (gX5_0 _ _ _ _ _ _ _ _ _ _) rfl (by decide) k21 rfl rfl dX5_wayTold_29 ?_
    refine ld_f S iX3 hK hP 11 6 (.ref (A 17)) (gX5_11 _ _ _ _ _ _ _ _ _ _) rfl (by decide) k198 rfl rfl dX5_wayTold_32 ?_
    refine lv_iload hx hb dX5_wayTold_35 (lv_at hl 0 rfl) ?_
    obtain ⟨c37, hf⟩ := ck_t hf
    refine va_zald (f := ct 6) hx hb hK hP 17 1 (gX5_17 _ _ _ _ _ _ _ _ _ _) rfl (inb_in c37) dX5_wayTold_37 ?_
    refine lv_if_eq (tgt := 59) hx hb dX5_wayTold_38 (by decide) (fun c38 => ?_) (fun c38 => ?_)
    · have hf := if_t c38 hf
      refine lv_iconst (v := (-1)) hx hb dX5_wayTold_59 (by decide) ?_
      exact hR _ ls H locs _ _ (congrArg (fun q => q) (Option.some.inj hf)) rfl rfl dX5_wayTold_60 hP hD hS
    · have hf := if_f c38 hf
      refine lv_aload_n hx hb dX5_wayTold_41 rfl (lv_at hl 2 rfl) ?_
      refine ld_f S iX5 hK hP 0 3 (.ref (A 41)) (gX5_0 _ _ _ _ _ _ _ _ _ _) rfl (by decide) k31 rfl rfl dX5_wayTold_42 ?_
      refine lv_iload hx hb dX5_wayTold_45 (lv_at hl 0 rfl) ?_
      refine lv_iload_n hx hb dX5_wayTold_47 rfl (lv_at hl 4 rfl) ?_
      obtain ⟨q48, h48, hf⟩ := bd_t hf
      refine cl_i (va_runV (As := [.int q23, .int x2]) (rest := []) S (mX0_carries l D cI cZ (aX5_X0_4 A) cl q23 x2 H.size q48 h48) (cwV 2 hts gX5_wayTold_X0_carries rfl rfl rfl (by decide +kernel) ⟨Nat.le_of_ble_eq_true rfl, Nat.le_of_ble_eq_true rfl⟩) (mP_V (ci := 0) (cutX5_X0_4 _ _ _ _ _ _ _ _ _ _ st0) hP hD hK hG rfl (gX0_0 _ _ _ _)) rfl rfl hl.1 rfl (lv_room (Nat.le_of_ble_eq_true rfl)) dX5_wayTold_48 ⟨Nat.le_refl _, Nat.le_refl _⟩) (cutX5_X0_4 _ _ _ _ _ _ _ _ _ _ _) hP hD hS hA (fun H locs hP hD hS => ?_)
      refine lv_if_eq (tgt := 59) hx hb dX5_wayTold_51 (by decide) (fun c51 => ?_) (fun c51 => ?_)
      · have hf := if_t c51 hf
        refine lv_iconst (v := (-1)) hx hb dX5_wayTold_59 (by decide) ?_
        exact hR _ ls H locs _ _ (congrArg (fun q => q) (Option.some.inj hf)) rfl rfl dX5_wayTold_60 hP hD hS
      · have hf := if_f c51 hf
        refine lv_iload hx hb dX5_wayTold_54 (lv_at hl 0 rfl) ?_
        refine lv_goto (tgt := 60) hx hb dX5_wayTold_56 (by decide) ?_
        exact hR _ ls H locs _ _ (congrArg (fun q => q) (Option.some.inj hf)) rfl rfl dX5_wayTold_60 hP hD hS
  · have hf := if_t c15 hf
    refine lv_iconst (v := (-1)) hx hb dX5_wayTold_18 (by decide) ?_
    exact hR _ ls H locs _ _ (congrArg (fun q => q) (Option.some.inj hf)) rfl rfl dX5_wayTold_19 hP hD hS
set_option maxHeartbeats 4000000 in
set_option maxRecDepth 100000 in
theorem mX5_walk (l : Launch) (D : va_G) (cI cZ : ClassId) (A : Nat → Nat)  (cs : St) (cw : St) (ct : St) (cu : St) (cl : St) (cb : St) (cp : St) (x1 : Int32) (x2 : Int32) (sz : Nat) (res : Int32) (hf : fX5_walk cw ct cl cb x1 x2 = some (.inl res)) : Met l yX5_walk wsX5_walk ({ frames := 7, cells := 0, slots := 0, locals := 116 }) (mP D (tysX cI cZ) [.ref (A 0), .int x1, .int x2] (wX5 cI cZ A cs cw ct cu cl cb cp) sz) (mQi D res (wX5 cI cZ A cs cw ct cu cl cb cp) (wX5 cI cZ A cs cw ct cu cl cb cp) sz) 0 0 (va_A (wX5 cI cZ A cs cw ct cu cl cb cp) sz) := by
  refine mkM_i (cc := cX5_walk) (maxL := 8) (own := RX5) (by decide +kernel) rfl rfl (Nat.le_of_ble_eq_true rfl) ?_
  intro p e s m args below meth c A0 Q S hK hG hA hR
  obtain ⟨hx, hb, hml, hown, hts⟩ := id S
  have k12 := hts (.fieldLink RX5 12 "SwitchFloor" "wiring" "LSwitchFloor$Wiring;") (by decide +kernel)
  have iX5 : ∀ w ∈ wsX50, w ∈ wsX5_walk := by decide +kernel
  have k116 := hts (.fieldLink RX5 116 "SwitchFloor$Wiring" "spotOfHouse" "[I") (by decide +kernel)
  have iX4 : ∀ w ∈ wsX40, w ∈ wsX5_walk := by decide +kernel
  have k99 := hts (.fieldLink RX5 99 "SwitchFloor$Wiring" "peer" "[I") (by decide +kernel)
  have k31 := hts (.fieldLink RX5 31 "SwitchFloor" "lanes" "LSwitchFloor$Lanes;") (by decide +kernel)
  have k245 := hts (.fieldLink RX5 245 "SwitchFloor$Wiring" "house" "[I") (by decide +kernel)
  have B134 : ∀ (x2 : Int32) (x5 : Int32) (x7 : Int32), fX5_walk_J134 cw ct cl cb x2 x5 x7 = some (.inl res) → Bk p l e ({ frames := 7, cells := 0, slots := 0, locals := 116 }) s m args below meth c Q A0 D 8 0 0 (wX5 cI cZ A cs cw ct cu cl cb cp) [(0, .ref (A 0)), (2, .int x2), (5, .int x5), (7, .int x7)] 134 [] := by
    intro x2 x5 x7 hf
    unfold fX5_walk_J134 at hf
    intro H locs hP hD hS ls hl
    refine lv_aload_n hx hb dX5_walk_134 rfl (lv_at hl 0 rfl) ?_
    refine ld_f S iX5 hK hP 0 0 (.ref (A 4)) (gX5_0 _ _ _ _ _ _ _ _ _ _) rfl (by decide) k12 rfl rfl dX5_walk_135 ?_
    refine ld_f S iX4 hK hP 4 2 (.ref (A 7)) (gX5_4 _ _ _ _ _ _ _ _ _ _) rfl (by decide) k245 rfl rfl dX5_walk_138 ?_
    refine lv_iload hx hb dX5_walk_141 (lv_at hl 3 rfl) ?_
    obtain ⟨c143, hf⟩ := ck_t hf
    refine va_iald (f := cw 2) hx hb hK hP 7 0 (gX5_7 _ _ _ _ _ _ _ _ _ _) rfl (inb_in c143) dX5_walk_143 ?_
    refine lv_iload_n hx hb dX5_walk_144 rfl (lv_at hl 1 rfl) ?_
    refine lv_icmp_ne (tgt := 153) hx hb dX5_walk_145 (by decide) (fun c145 => ?_) (fun c145 => ?_)
    · have hf := if_f c145 hf
      refine lv_iconst (v := (-1)) hx hb dX5_walk_153 (by decide) ?_
      exact hR _ ls H locs _ _ (congrArg (fun q => q) (Sum.inl.inj (Option.some.inj hf))) rfl rfl dX5_walk_154 hP hD hS
    · have hf := if_t c145 hf
      refine lv_iload hx hb dX5_walk_148 (lv_at hl 2 rfl) ?_
      refine lv_goto (tgt := 154) hx hb dX5_walk_150 (by decide) ?_
      exact hR _ ls H locs _ _ (congrArg (fun q => q) (Sum.inl.inj (Option.some.inj hf))) rfl rfl dX5_walk_154 hP hD hS
  have B110 : ∀ (x2 : Int32) (x5 : Int32) (x6 : Int32) (y0 : Int32) (k75 : (Int32 × Int32 × Int32) → Option ((Int32) ⊕ Nat)) (hk75 : ∀ a75, k75 a75 = some (.inl res) → Bk p l e ({ frames := 7, cells := 0, slots := 0, locals := 116 }) s m args below meth c Q A0 D 8 0 0 (wX5 cI cZ A cs cw ct cu cl cb cp) [(0, .ref (A 0)), (2, .int x2), (3, .int (a75.1)), (4, .int (a75.2.1)), (5, .int (a75.2.2))] 75 []), fX5_walk_J110 k75 cw ct cl cb x2 x5 x6 y0 = some (.inl res) → Bk p l e ({ frames := 7, cells := 0, slots := 0, locals := 116 }) s m args below meth c Q A0 D 8 0 0 (wX5 cI cZ A cs cw ct cu cl cb cp) [(0, .ref (A 0)), (2, .int x2), (5, .int x5), (6, .int x6)] 110 [.int y0] := by
    intro x2 x5 x6 y0 k75 hk75 hf
    unfold fX5_walk_J110 at hf
    intro H locs hP hD hS ls hl
    refine lv_istore (lv' := [(7, .int y0), (0, .ref (A 0)), (2, .int x2), (5, .int x5), (6, .int x6)]) hx hb dX5_walk_110 hl (by decide) rfl (fun ls hl => ?_)
    refine lv_iload hx hb dX5_walk_112 (lv_at hl 0 rfl) ?_
    refine lv_iconst (v := (-1)) hx hb dX5_walk_114 (by decide) ?_
    refine lv_icmp_ne (tgt := 120) hx hb dX5_walk_115 (by decide) (fun c115 => ?_) (fun c115 => ?_)
    · have hf := if_f c115 hf
      refine lv_aload_n hx hb dX5_walk_120 rfl (lv_at hl 1 rfl) ?_
      refine ld_f S iX5 hK hP 0 0 (.ref (A 4)) (gX5_0 _ _ _ _ _ _ _ _ _ _) rfl (by decide) k12 rfl rfl dX5_walk_121 ?_
      refine ld_f S iX4 hK hP 4 0 (.ref (A 5)) (gX5_4 _ _ _ _ _ _ _ _ _ _) rfl (by decide) k99 rfl rfl dX5_walk_124 ?_
      refine lv_iload hx hb dX5_walk_127 (lv_at hl 0 rfl) ?_
      obtain ⟨c129, hf⟩ := ck_t hf
      refine va_iald (f := cw 0) hx hb hK hP 5 0 (gX5_5 _ _ _ _ _ _ _ _ _ _) rfl (inb_in c129) dX5_walk_129 ?_
      refine lv_iconst (v := (-1)) hx hb dX5_walk_130 (by decide) ?_
      refine lv_icmp_ne (tgt := 155) hx hb dX5_walk_131 (by decide) (fun c131 => ?_) (fun c131 => ?_)
      · have hf := if_f c131 hf
        refine lv_aload_n hx hb dX5_walk_155 rfl (lv_at hl 1 rfl) ?_
        refine ld_f S iX5 hK hP 0 3 (.ref (A 41)) (gX5_0 _ _ _ _ _ _ _ _ _ _) rfl (by decide) k31 rfl rfl dX5_walk_156 ?_
        refine lv_iload hx hb dX5_walk_159 (lv_at hl 0 rfl) ?_
        refine lv_iload hx hb dX5_walk_161 (lv_at hl 4 rfl) ?_
        obtain ⟨q163, h163, hf⟩ := bd_t hf
        refine cl_i (va_runV (As := [.int y0, .int x6]) (rest := []) S (mX0_tagOut l D cI cZ (aX5_X0_4 A) cl y0 x6 H.size q163 h163) (cwV 2 hts gX5_walk_X0_tagOut rfl rfl rfl (by decide +kernel) ⟨Nat.le_of_ble_eq_true rfl, Nat.le_of_ble_eq_true rfl⟩) (mP_V (ci := 0) (cutX5_X0_4 _ _ _ _ _ _ _ _ _ _ st0) hP hD hK hG rfl (gX0_0 _ _ _ _)) rfl rfl hl.1 rfl (lv_room (Nat.le_of_ble_eq_true rfl)) dX5_walk_163 ⟨Nat.le_refl _, Nat.le_refl _⟩) (cutX5_X0_4 _ _ _ _ _ _ _ _ _ _ _) hP hD hS hA (fun H locs hP hD hS => ?_)
        refine lv_istore (lv' := [(4, .int q163), (7, .int y0), (0, .ref (A 0)), (2, .int x2), (5, .int x5), (6, .int x6)]) hx hb dX5_walk_166 hl (by decide) rfl (fun ls hl => ?_)
        refine lv_aload_n hx hb dX5_walk_168 rfl (lv_at hl 2 rfl) ?_
        refine ld_f S iX5 hK hP 0 0 (.ref (A 4)) (gX5_0 _ _ _ _ _ _ _ _ _ _) rfl (by decide) k12 rfl rfl dX5_walk_169 ?_
        refine ld_f S iX4 hK hP 4 0 (.ref (A 5)) (gX5_4 _ _ _ _ _ _ _ _ _ _) rfl (by decide) k99 rfl rfl dX5_walk_172 ?_
        refine lv_iload hx hb dX5_walk_175 (lv_at hl 1 rfl) ?_
        obtain ⟨c177, hf⟩ := ck_t hf
        refine va_iald (f := cw 0) hx hb hK hP 5 0 (gX5_5 _ _ _ _ _ _ _ _ _ _) rfl (inb_in c177) dX5_walk_177 ?_
        refine lv_istore_n (lv' := [(3, .int (cw 0 y0.toNatClampNeg)), (4, .int q163), (7, .int y0), (0, .ref (A 0)), (2, .int x2), (5, .int x5), (6, .int x6)]) hx hb dX5_walk_178 rfl hl (by decide) rfl (fun ls hl => ?_)
        refine lv_iinc (v := x5 + 1) (lv' := [(5, .int (x5 + 1)), (3, .int (cw 0 y0.toNatClampNeg)), (4, .int q163), (7, .int y0), (0, .ref (A 0)), (2, .int x2), (6, .int x6)]) hx hb dX5_walk_179 hl (k := 5) rfl rfl (by decide) rfl (fun ls hl => ?_)
        refine lv_goto (tgt := 75) hx hb dX5_walk_182 (by decide) ?_
        exact hk75 _ hf H locs hP hD hS ls (lv_sub hl [4, 5, 1, 2, 0] rfl)
      · have hf := if_t c131 hf
        exact B134 _ _ _ hf H locs hP hD hS ls (lv_sub hl [1, 2, 3, 0] rfl)
    · have hf := if_t c115 hf
      refine lv_iconst (v := (-1)) hx hb dX5_walk_118 (by decide) ?_
      exact hR _ ls H locs _ _ (congrArg (fun q => q) (Sum.inl.inj (Option.some.inj hf))) rfl rfl dX5_walk_119 hP hD hS
  have B75 : ∀ (x2 : Int32) (x3 : Int32) (x4 : Int32) (x5 : Int32), fX5_walk_L75 cw ct cl cb x2 x3 x4 x5 = some (.inl res) → Bk p l e ({ frames := 7, cells := 0, slots := 0, locals := 116 }) s m args below meth c Q A0 D 8 0 0 (wX5 cI cZ A cs cw ct cu cl cb cp) [(0, .ref (A 0)), (2, .int x2), (3, .int x3), (4, .int x4), (5, .int x5)] 75 [] := by
    intro x2 x3 x4 x5 hf
    refine loop_ind (step := (fun k a => fX5_walk_S75 k cw ct cl cb x2 (a.1) (a.2.1) (a.2.2))) (fun a => Bk p l e ({ frames := 7, cells := 0, slots := 0, locals := 116 }) s m args below meth c Q A0 D 8 0 0 (wX5 cI cZ A cs cw ct cu cl cb cp) [(0, .ref (A 0)), (2, .int x2), (3, .int (a.1)), (4, .int (a.2.1)), (5, .int (a.2.2))] 75 []) ?_ _ _ hf
    clear hf
    intro k75 hk75 a hf
    obtain ⟨x3_, x4_, x5_⟩ := a
    clear x3 x4 x5
    obtain ⟨x3, e_⟩ : ∃ z, z = x3_ := ⟨_, rfl⟩
    subst e_
    obtain ⟨x4, e_⟩ : ∃ z, z = x4_ := ⟨_, rfl⟩
    subst e_
    obtain ⟨x5, e_⟩ : ∃ z, z = x5_ := ⟨_, rfl⟩
    subst e_
    have hf : fX5_walk_S75 k75 cw ct cl cb x2 x3 x4 x5 = some (.inl res) := hf
    show Bk p l e ({ frames := 7, cells := 0, slots := 0, locals := 116 }) s m args below meth c Q A0 D 8 0 0 (wX5 cI cZ A cs cw ct cu cl cb cp) [(0, .ref (A 0)), (2, .int x2), (3, .int x3), (4, .int x4), (5, .int x5)] 75 []
    unfold fX5_walk_S75 at hf
    intro H locs hP hD hS ls hl
    refine lv_iload hx hb dX5_walk_75 (lv_at hl 4 rfl) ?_
    refine lv_bipush (v := 12) hx hb dX5_walk_77 (by decide) ?_
    refine lv_icmp_gt (tgt := 185) hx hb dX5_walk_79 (by decide) (fun c79 => ?_) (fun c79 => ?_)
    · have hf := if_t c79 hf
      refine lv_iconst (v := (-1)) hx hb dX5_walk_185 (by decide) ?_
      exact hR _ ls H locs _ _ (congrArg (fun q => q) (Sum.inl.inj (Option.some.inj hf))) rfl rfl dX5_walk_186 hP hD hS
    · have hf := if_f c79 hf
      refine lv_aload_n hx hb dX5_walk_82 rfl (lv_at hl 0 rfl) ?_
      refine lv_iload_n hx hb dX5_walk_83 rfl (lv_at hl 2 rfl) ?_
      refine lv_iload hx hb dX5_walk_84 (lv_at hl 3 rfl) ?_
      obtain ⟨q86, h86, hf⟩ := bd_t hf
      refine cl_i (va_runV (As := [.int x3, .int x4]) (rest := []) S (mX5_laneLetIn l D cI cZ A cs cw ct cu cl cb cp x3 x4 H.size q86 h86) (cwV 2 hts gX5_walk_X5_laneLetIn rfl rfl rfl (by decide +kernel) ⟨Nat.le_of_ble_eq_true rfl, Nat.le_of_ble_eq_true rfl⟩) (mP_V (ci := 5) (Cut.self _ []) hP hD hK hG rfl (gX5_0 _ _ _ _ _ _ _ _ _ _)) rfl rfl hl.1 rfl (lv_room (Nat.le_of_ble_eq_true rfl)) dX5_walk_86 ⟨Nat.le_refl _, Nat.le_refl _⟩) (Cut.self _ _) hP hD hS hA (fun H locs hP hD hS => ?_)
      refine lv_istore (lv' := [(6, .int q86), (0, .ref (A 0)), (2, .int x2), (3, .int x3), (4, .int x4), (5, .int x5)]) hx hb dX5_walk_89 hl (by decide) rfl (fun ls hl => ?_)
      refine lv_iload hx hb dX5_walk_91 (lv_at hl 0 rfl) ?_
      refine lv_if_ne (tgt := 100) hx hb dX5_walk_93 (by decide) (fun c93 => ?_) (fun c93 => ?_)
      · have hf := if_f c93 hf
        refine lv_aload_n hx hb dX5_walk_100 rfl (lv_at hl 1 rfl) ?_
        refine lv_iload_n hx hb dX5_walk_101 rfl (lv_at hl 3 rfl) ?_
        refine lv_iconst (v := 5) hx hb dX5_walk_102 (by decide) ?_
        refine lv_idiv hx hb dX5_walk_103 (by decide) ?_
        refine lv_iload hx hb dX5_walk_104 (lv_at hl 0 rfl) ?_
        refine lv_iload_n hx hb dX5_walk_106 rfl (lv_at hl 2 rfl) ?_
        obtain ⟨q107, h107, hf⟩ := bd_t hf
        refine cl_i (va_runV (As := [.int (x3 / 5), .int q86, .int x2]) (rest := []) S (mX5_wayTold l D cI cZ A cs cw ct cu cl cb cp (x3 / 5) q86 x2 H.size q107 h107) (cwV 3 hts gX5_walk_X5_wayTold rfl rfl rfl (by decide +kernel) ⟨Nat.le_of_ble_eq_true rfl, Nat.le_of_ble_eq_true rfl⟩) (mP_V (ci := 5) (Cut.self _ []) hP hD hK hG rfl (gX5_0 _ _ _ _ _ _ _ _ _ _)) rfl rfl hl.1 rfl (lv_room (Nat.le_of_ble_eq_true rfl)) dX5_walk_107 ⟨Nat.le_refl _, Nat.le_refl _⟩) (Cut.self _ _) hP hD hS hA (fun H locs hP hD hS => ?_)
        exact B110 _ _ _ _ k75 hk75 hf H locs hP hD hS ls (lv_sub hl [1, 2, 5, 0] rfl)
      · have hf := if_t c93 hf
        refine lv_iconst (v := (-1)) hx hb dX5_walk_96 (by decide) ?_
        refine lv_goto (tgt := 110) hx hb dX5_walk_97 (by decide) ?_
        exact B110 _ _ _ _ k75 hk75 hf H locs hP hD hS ls (lv_sub hl [1, 2, 5, 0] rfl)
  intro H locs hP hD hS ls hl
  have hl : lv_has ls 8 [(0, .ref (A 0)), (1, .int x1), (2, .int x2)] := hl
  unfold fX5_walk at hf
  refine lv_iload_n hx hb dX5_walk_0 rfl (lv_at hl 1 rfl) ?_
  obtain ⟨q1, h1, hf⟩ := bx_l hf
  refine cl_v (va_runS (As := [.int x1]) (rest := []) S (mX5_needHouse l D cI cZ x1 H.size q1 h1) (va_cwS 1 hts gX5_walk_X5_needHouse rfl rfl rfl (by decide +kernel) ⟨Nat.le_of_ble_eq_true rfl, Nat.le_of_ble_eq_true rfl⟩) (mP_S (Cut.nil _) hP hD hK hG) rfl rfl hl.1 rfl (lv_room (Nat.le_of_ble_eq_true rfl)) dX5_walk_1 ⟨Nat.le_refl _, Nat.le_refl _⟩) (Cut.nil _) hP hD hS hA (fun H locs hP hD hS => ?_)
  refine lv_iload_n hx hb dX5_walk_4 rfl (lv_at hl 2 rfl) ?_
  obtain ⟨q5, h5, hf⟩ := bx_l hf
  refine cl_v (va_runS (As := [.int x2]) (rest := []) S (mX5_needHouse l D cI cZ x2 H.size q5 h5) (va_cwS 1 hts gX5_walk_X5_needHouse rfl rfl rfl (by decide +kernel) ⟨Nat.le_of_ble_eq_true rfl, Nat.le_of_ble_eq_true rfl⟩) (mP_S (Cut.nil _) hP hD hK hG) rfl rfl hl.1 rfl (lv_room (Nat.le_of_ble_eq_true rfl)) dX5_walk_5 ⟨Nat.le_refl _, Nat.le_refl _⟩) (Cut.nil _) hP hD hS hA (fun H locs hP hD hS => ?_)
  refine lv_iload_n hx hb dX5_walk_8 rfl (lv_at hl 1 rfl) ?_
  refine lv_iload_n hx hb dX5_walk_9 rfl (lv_at hl 2 rfl) ?_
  refine lv_icmp_ne (tgt := 23) hx hb dX5_walk_10 (by decide) (fun c10 => ?_) (fun c10 => ?_)
  · have hf := if_f c10 hf
    refine lv_aload_n hx hb dX5_walk_23 rfl (lv_at hl 0 rfl) ?_
    refine ld_f S iX5 hK hP 0 0 (.ref (A 4)) (gX5_0 _ _ _ _ _ _ _ _ _ _) rfl (by decide) k12 rfl rfl dX5_walk_24 ?_
    refine ld_f S iX4 hK hP 4 4 (.ref (A 9)) (gX5_4 _ _ _ _ _ _ _ _ _ _) rfl (by decide) k116 rfl rfl dX5_walk_27 ?_
    refine lv_iload_n hx hb dX5_walk_30 rfl (lv_at hl 1 rfl) ?_
    obtain ⟨c31, hf⟩ := ck_t hf
    refine va_iald (f := cw 4) hx hb hK hP 9 0 (gX5_9 _ _ _ _ _ _ _ _ _ _) rfl (inb_in c31) dX5_walk_31 ?_
    refine lv_iconst (v := (-1)) hx hb dX5_walk_32 (by decide) ?_
    refine lv_icmp_eq (tgt := 49) hx hb dX5_walk_33 (by decide) (fun c33 => ?_) (fun c33 => ?_)
    · have hf := if_t c33 hf
      cases hf
    · have hf := if_f c33 hf
      refine lv_aload_n hx hb dX5_walk_36 rfl (lv_at hl 0 rfl) ?_
      refine ld_f S iX5 hK hP 0 0 (.ref (A 4)) (gX5_0 _ _ _ _ _ _ _ _ _ _) rfl (by decide) k12 rfl rfl dX5_walk_37 ?_
      refine ld_f S iX4 hK hP 4 4 (.ref (A 9)) (gX5_4 _ _ _ _ _ _ _ _ _ _) rfl (by decide) k116 rfl rfl dX5_walk_40 ?_
      refine lv_iload_n hx hb dX5_walk_43 rfl (lv_at hl 2 rfl) ?_
      obtain ⟨c44, hf⟩ := ck_t hf
      refine va_iald (f := cw 4) hx hb hK hP 9 0 (gX5_9 _ _ _ _ _ _ _ _ _ _) rfl (inb_in c44) dX5_walk_44 ?_
      refine lv_iconst (v := (-1)) hx hb dX5_walk_45 (by decide) ?_
      refine lv_icmp_ne (tgt := 59) hx hb dX5_walk_46 (by decide) (fun c46 => ?_) (fun c46 => ?_)
      · have hf := if_f c46 hf
        refine lv_aload_n hx hb dX5_walk_59 rfl (lv_at hl 0 rfl) ?_
        refine ld_f S iX5 hK hP 0 0 (.ref (A 4)) (gX5_0 _ _ _ _ _ _ _ _ _ _) rfl (by decide) k12 rfl rfl dX5_walk_60 ?_
        refine ld_f S iX4 hK hP 4 4 (.ref (A 9)) (gX5_4 _ _ _ _ _ _ _ _ _ _) rfl (by decide) k116 rfl rfl dX5_walk_63 ?_
        refine lv_iload_n hx hb dX5_walk_66 rfl (lv_at hl 1 rfl) ?_
        obtain ⟨c67, hf⟩ := ck_t hf
        refine va_iald (f := cw 4) hx hb hK hP 9 0 (gX5_9 _ _ _ _ _ _ _ _ _ _) rfl (inb_in c67) dX5_walk_67 ?_
        refine lv_istore_n (lv' := [(3, .int (cw 4 x1.toNatClampNeg)), (0, .ref (A 0)), (1, .int x1), (2, .int x2)]) hx hb dX5_walk_68 rfl hl (by decide) rfl (fun ls hl => ?_)
        refine lv_iconst (v := 0) hx hb dX5_walk_69 (by decide) ?_
        refine lv_istore (lv' := [(4, .int 0), (3, .int (cw 4 x1.toNatClampNeg)), (0, .ref (A 0)), (1, .int x1), (2, .int x2)]) hx hb dX5_walk_70 hl (by decide) rfl (fun ls hl => ?_)
        refine lv_iconst (v := 1) hx hb dX5_walk_72 (by decide) ?_
        refine lv_istore (lv' := [(5, .int 1), (4, .int 0), (3, .int (cw 4 x1.toNatClampNeg)), (0, .ref (A 0)), (1, .int x1), (2, .int x2)]) hx hb dX5_walk_73 hl (by decide) rfl (fun ls hl => ?_)
        exact B75 _ _ _ _ hf H locs hP hD hS ls (lv_sub hl [3, 5, 2, 1, 0] rfl)
      · have hf := if_t c46 hf
        cases hf
  · have hf := if_t c10 hf
    cases hf

set_option maxHeartbeats 4000000 in
set_option maxRecDepth 100000 in
theorem xX5_needSwitch (l : Launch) (hfl : l.stackTraces = false) (D : va_G) (cI cZ : ClassId)  (x0 : Int32) (sz : Nat) (res : Nat) (hf : fX5_needSwitch x0 = some (.inr res)) : vx_Met l yX5_needSwitch wsX5_needSwitch ({ frames := 6, cells := 1, slots := 6, locals := 96 }) (xP D (tysX cI cZ) [.int x0] [] sz) (xQv (va_A [] sz)) (xC D [] res sz) 1 6 (va_A [] sz) := by
  refine mkX (cc := cX5_needSwitch) (maxL := 1) hfl (by decide +kernel) rfl rfl (Nat.le_of_ble_eq_true rfl) (by decide) ?_
  intro p e s m args below meth c A0 Q S hK hG hX hZ hA hT hTW hO
  obtain ⟨hx, hb, hml, hown, hts⟩ := id S
  have xw1 : ∀ w ∈ (vx_atS RX5 (xIc 1) (xn 1) xNames).filter goodWord, w ∈ wsX5_needSwitch := by decide +kernel
  have xc1 := hts (.classLink RX5 251 "java/lang/IndexOutOfBoundsException") (by decide +kernel)
  have xi1 := hts (.initialized "java/lang/IndexOutOfBoundsException") (by decide +kernel)
  intro H locs hP hD hS ls hl
  have hl : lv_has ls 1 [(0, .int x0)] := hl
  unfold fX5_needSwitch at hf
  refine lv_iload_n hx hb dX5_needSwitch_0 rfl (lv_at hl 0 rfl) ?_
  refine lv_if_lt (tgt := 10) hx hb dX5_needSwitch_1 (by decide) (fun c1 => ?_) (fun c1 => ?_)
  · have hf := if_t c1 hf
    cases hf
    exact hT _ ls H locs _ 251 253 "no such switch" (by decide) (by decide +kernel) xc1 xi1 (fun w h => hts w (xw1 w h)) dX5_needSwitch_10 dX5_needSwitch_13 dX5_needSwitch_14 dX5_needSwitch_16 dX5_needSwitch_19 hl.1 (Nat.le_of_ble_eq_true rfl) hP hD hS
  · have hf := if_f c1 hf
    refine lv_iload_n hx hb dX5_needSwitch_4 rfl (lv_at hl 0 rfl) ?_
    refine lv_bipush (v := 6) hx hb dX5_needSwitch_5 (by decide) ?_
    refine lv_icmp_lt (tgt := 20) hx hb dX5_needSwitch_7 (by decide) (fun c7 => ?_) (fun c7 => ?_)
    · have hf := if_t c7 hf
      cases hf
    · have hf := if_f c7 hf
      cases hf
      exact hT _ ls H locs _ 251 253 "no such switch" (by decide) (by decide +kernel) xc1 xi1 (fun w h => hts w (xw1 w h)) dX5_needSwitch_10 dX5_needSwitch_13 dX5_needSwitch_14 dX5_needSwitch_16 dX5_needSwitch_19 hl.1 (Nat.le_of_ble_eq_true rfl) hP hD hS
set_option maxHeartbeats 4000000 in
set_option maxRecDepth 100000 in
theorem xX5_needPort (l : Launch) (hfl : l.stackTraces = false) (D : va_G) (cI cZ : ClassId)  (x0 : Int32) (x1 : Int32) (sz : Nat) (res : Nat) (hf : fX5_needPort x0 x1 = some (.inr res)) : vx_Met l yX5_needPort wsX5_needPort ({ frames := 7, cells := 1, slots := 6, locals := 116 }) (xP D (tysX cI cZ) [.int x0, .int x1] [] sz) (xQv (va_A [] sz)) (xC D [] res sz) 1 6 (va_A [] sz) := by
  refine mkX (cc := cX5_needPort) (maxL := 2) hfl (by decide +kernel) rfl rfl (Nat.le_of_ble_eq_true rfl) (by decide) ?_
  intro p e s m args below meth c A0 Q S hK hG hX hZ hA hT hTW hO
  obtain ⟨hx, hb, hml, hown, hts⟩ := id S
  have xw1 : ∀ w ∈ (vx_atS RX5 (xIc 1) (xn 1) xNames).filter goodWord, w ∈ wsX5_needPort := by decide +kernel
  have xc1 := hts (.classLink RX5 251 "java/lang/IndexOutOfBoundsException") (by decide +kernel)
  have xi1 := hts (.initialized "java/lang/IndexOutOfBoundsException") (by decide +kernel)
  intro H locs hP hD hS ls hl
  have hl : lv_has ls 2 [(0, .int x0), (1, .int x1)] := hl
  unfold fX5_needPort at hf
  refine lv_iload_n hx hb dX5_needPort_0 rfl (lv_at hl 0 rfl) ?_
  rcases bx_r hf with h1x | ⟨q1, h1, hf⟩
  · exact clx_v (k := res) (vx_runS (As := [.int x0]) (rest := []) S (xX5_needSwitch l hfl D cI cZ x0 H.size res h1x) (va_cwS 1 hts gX5_needPort_X5_needSwitch rfl rfl rfl (by decide +kernel) ⟨Nat.le_of_ble_eq_true rfl, Nat.le_of_ble_eq_true rfl⟩) (xP_S (Cut.nil _) hP hD hS hA hK hG hX hZ) rfl rfl hl.1 rfl (lv_room (Nat.le_of_ble_eq_true rfl)) dX5_needPort_1 ⟨Nat.le_of_ble_eq_true rfl, Nat.le_of_ble_eq_true rfl⟩) (Cut.nil _) rfl hP hD hS hA (fun E ce q9 H locs hE hce hcv hcl hP hD hS => hO _ ls H locs _ E ce q9 hE hce hcv hcl hP hD hS)
  refine cl_v (va_runS (As := [.int x0]) (rest := []) S (mX5_needSwitch l D cI cZ x0 H.size q1 h1) (va_cwS 1 hts gX5_needPort_X5_needSwitch rfl rfl rfl (by decide +kernel) ⟨Nat.le_of_ble_eq_true rfl, Nat.le_of_ble_eq_true rfl⟩) (mP_S (Cut.nil _) hP hD hK hG) rfl rfl hl.1 rfl (lv_room (Nat.le_of_ble_eq_true rfl)) dX5_needPort_1 ⟨Nat.le_of_ble_eq_true rfl, Nat.le_of_ble_eq_true rfl⟩) (Cut.nil _) hP hD hS hA (fun H locs hP hD hS => ?_)
  refine lv_iload_n hx hb dX5_needPort_4 rfl (lv_at hl 1 rfl) ?_
  refine lv_if_lt (tgt := 13) hx hb dX5_needPort_5 (by decide) (fun c5 => ?_) (fun c5 => ?_)
  · have hf := if_t c5 hf
    cases hf
    exact hTW _ ls H locs _ 251 256 "no such port" (by decide) (by decide +kernel) xc1 xi1 (fun w h => hts w (xw1 w h)) dX5_needPort_13 dX5_needPort_16 dX5_needPort_17 dX5_needPort_20 dX5_needPort_23 hl.1 (Nat.le_of_ble_eq_true rfl) hP hD hS
  · have hf := if_f c5 hf
    refine lv_iload_n hx hb dX5_needPort_8 rfl (lv_at hl 1 rfl) ?_
    refine lv_iconst (v := 5) hx hb dX5_needPort_9 (by decide) ?_
    refine lv_icmp_lt (tgt := 24) hx hb dX5_needPort_10 (by decide) (fun c10 => ?_) (fun c10 => ?_)
    · have hf := if_t c10 hf
      cases hf
    · have hf := if_f c10 hf
      cases hf
      exact hTW _ ls H locs _ 251 256 "no such port" (by decide) (by decide +kernel) xc1 xi1 (fun w h => hts w (xw1 w h)) dX5_needPort_13 dX5_needPort_16 dX5_needPort_17 dX5_needPort_20 dX5_needPort_23 hl.1 (Nat.le_of_ble_eq_true rfl) hP hD hS
set_option maxHeartbeats 4000000 in
set_option maxRecDepth 100000 in
theorem xX5_needWithin (l : Launch) (hfl : l.stackTraces = false) (D : va_G) (cI cZ : ClassId)  (x0 : Int32) (x1 : Int32) (x2 : Int32) (sz : Nat) (res : Nat) (hf : fX5_needWithin x0 x1 x2 = some (.inr res)) : vx_Met l yX5_needWithin wsX5_needWithin ({ frames := 6, cells := 1, slots := 6, locals := 96 }) (xP D (tysX cI cZ) [.int x0, .int x1, .int x2] [] sz) (xQv (va_A [] sz)) (xC D [] res sz) 1 6 (va_A [] sz) := by
  refine mkX (cc := cX5_needWithin) (maxL := 3) hfl (by decide +kernel) rfl rfl (Nat.le_of_ble_eq_true rfl) (by decide) ?_
  intro p e s m args below meth c A0 Q S hK hG hX hZ hA hT hTW hO
  obtain ⟨hx, hb, hml, hown, hts⟩ := id S
  have xw2 : ∀ w ∈ (vx_atS RX5 (xIc 2) (xn 2) xNames).filter goodWord, w ∈ wsX5_needWithin := by decide +kernel
  have xc2 := hts (.classLink RX5 67 "java/lang/IllegalArgumentException") (by decide +kernel)
  have xi2 := hts (.initialized "java/lang/IllegalArgumentException") (by decide +kernel)
  intro H locs hP hD hS ls hl
  have hl : lv_has ls 3 [(0, .int x0), (1, .int x1), (2, .int x2)] := hl
  unfold fX5_needWithin at hf
  refine lv_iload_n hx hb dX5_needWithin_0 rfl (lv_at hl 0 rfl) ?_
  refine lv_iload_n hx hb dX5_needWithin_1 rfl (lv_at hl 1 rfl) ?_
  refine lv_icmp_lt (tgt := 10) hx hb dX5_needWithin_2 (by decide) (fun c2 => ?_) (fun c2 => ?_)
  · have hf := if_t c2 hf
    cases hf
    exact hTW _ ls H locs _ 67 262 "an argument is out of range" (by decide) (by decide +kernel) xc2 xi2 (fun w h => hts w (xw2 w h)) dX5_needWithin_10 dX5_needWithin_13 dX5_needWithin_14 dX5_needWithin_17 dX5_needWithin_20 hl.1 (Nat.le_of_ble_eq_true rfl) hP hD hS
  · have hf := if_f c2 hf
    refine lv_iload_n hx hb dX5_needWithin_5 rfl (lv_at hl 0 rfl) ?_
    refine lv_iload_n hx hb dX5_needWithin_6 rfl (lv_at hl 2 rfl) ?_
    refine lv_icmp_le (tgt := 21) hx hb dX5_needWithin_7 (by decide) (fun c7 => ?_) (fun c7 => ?_)
    · have hf := if_t c7 hf
      cases hf
    · have hf := if_f c7 hf
      cases hf
      exact hTW _ ls H locs _ 67 262 "an argument is out of range" (by decide) (by decide +kernel) xc2 xi2 (fun w h => hts w (xw2 w h)) dX5_needWithin_10 dX5_needWithin_13 dX5_needWithin_14 dX5_needWithin_17 dX5_needWithin_20 hl.1 (Nat.le_of_ble_eq_true rfl) hP hD hS
set_option maxHeartbeats 4000000 in
set_option maxRecDepth 100000 in
theorem xX5_wire (l : Launch) (hfl : l.stackTraces = false) (D : va_G) (cI cZ : ClassId) (A : Nat → Nat)  (cs : St) (cw : St) (ct : St) (cu : St) (cl : St) (cb : St) (cp : St) (x1 : Int32) (x2 : Int32) (x3 : Int32) (x4 : Int32) (x5 : Int32) (sz : Nat) (res : Nat) (hf : fX5_wire cw x1 x2 x3 x4 x5 = some (.inr res)) : vx_Met l yX5_wire wsX5_wire ({ frames := 8, cells := 1, slots := 6, locals := 137 }) (xP D (tysX cI cZ) [.ref (A 0), .int x1, .int x2, .int x3, .int x4, .int x5] (wX5 cI cZ A cs cw ct cu cl cb cp) sz) (xQi (va_A (wX5 cI cZ A cs cw ct cu cl cb cp) sz)) (xC D (wX5 cI cZ A cs cw ct cu cl cb cp) res sz) 1 6 (va_A (wX5 cI cZ A cs cw ct cu cl cb cp) sz) := by
  refine mkX (cc := cX5_wire) (maxL := 8) hfl (by decide +kernel) rfl rfl (Nat.le_of_ble_eq_true rfl) (by decide) ?_
  intro p e s m args below meth c A0 Q S hK hG hX hZ hA hT hTW hO
  obtain ⟨hx, hb, hml, hown, hts⟩ := id S
  have k12 := hts (.fieldLink RX5 12 "SwitchFloor" "wiring" "LSwitchFloor$Wiring;") (by decide +kernel)
  have iX5 : ∀ w ∈ wsX50, w ∈ wsX5_wire := by decide +kernel
  have xw3 : ∀ w ∈ (vx_atS RX5 (xIc 3) (xn 3) xNames).filter goodWord, w ∈ wsX5_wire := by decide +kernel
  have xc3 := hts (.classLink RX5 86 "java/lang/IllegalStateException") (by decide +kernel)
  have xi3 := hts (.initialized "java/lang/IllegalStateException") (by decide +kernel)
  have k94 := hts (.fieldLink RX5 94 "SwitchFloor$Wiring" "wires" "I") (by decide +kernel)
  have iX4 : ∀ w ∈ wsX40, w ∈ wsX5_wire := by decide +kernel
  have xw2 : ∀ w ∈ (vx_atS RX5 (xIc 2) (xn 2) xNames).filter goodWord, w ∈ wsX5_wire := by decide +kernel
  have xc2 := hts (.classLink RX5 67 "java/lang/IllegalArgumentException") (by decide +kernel)
  have xi2 := hts (.initialized "java/lang/IllegalArgumentException") (by decide +kernel)
  intro H locs hP hD hS ls hl
  have hl : lv_has ls 8 [(0, .ref (A 0)), (1, .int x1), (2, .int x2), (3, .int x3), (4, .int x4), (5, .int x5)] := hl
  unfold fX5_wire at hf
  refine lv_iload_n hx hb dX5_wire_0 rfl (lv_at hl 1 rfl) ?_
  refine lv_iload_n hx hb dX5_wire_1 rfl (lv_at hl 2 rfl) ?_
  rcases bx_r hf with h2x | ⟨q2, h2, hf⟩
  · exact clx_v (k := res) (vx_runS (As := [.int x1, .int x2]) (rest := []) S (xX5_needPort l hfl D cI cZ x1 x2 H.size res h2x) (va_cwS 2 hts gX5_wire_X5_needPort rfl rfl rfl (by decide +kernel) ⟨Nat.le_of_ble_eq_true rfl, Nat.le_of_ble_eq_true rfl⟩) (xP_S (Cut.nil _) hP hD hS hA hK hG hX hZ) rfl rfl hl.1 rfl (lv_room (Nat.le_of_ble_eq_true rfl)) dX5_wire_2 ⟨Nat.le_of_ble_eq_true rfl, Nat.le_of_ble_eq_true rfl⟩) (Cut.nil _) rfl hP hD hS hA (fun E ce q9 H locs hE hce hcv hcl hP hD hS => hO _ ls H locs _ E ce q9 hE hce hcv hcl hP hD hS)
  refine cl_v (va_runS (As := [.int x1, .int x2]) (rest := []) S (mX5_needPort l D cI cZ x1 x2 H.size q2 h2) (va_cwS 2 hts gX5_wire_X5_needPort rfl rfl rfl (by decide +kernel) ⟨Nat.le_of_ble_eq_true rfl, Nat.le_of_ble_eq_true rfl⟩) (mP_S (Cut.nil _) hP hD hK hG) rfl rfl hl.1 rfl (lv_room (Nat.le_of_ble_eq_true rfl)) dX5_wire_2 ⟨Nat.le_of_ble_eq_true rfl, Nat.le_of_ble_eq_true rfl⟩) (Cut.nil _) hP hD hS hA (fun H locs hP hD hS => ?_)
  refine lv_iload_n hx hb dX5_wire_5 rfl (lv_at hl 3 rfl) ?_
  refine lv_iload hx hb dX5_wire_6 (lv_at hl 4 rfl) ?_
  rcases bx_r hf with h8x | ⟨q8, h8, hf⟩
  · exact clx_v (k := res) (vx_runS (As := [.int x3, .int x4]) (rest := []) S (xX5_needPort l hfl D cI cZ x3 x4 H.size res h8x) (va_cwS 2 hts gX5_wire_X5_needPort rfl rfl rfl (by decide +kernel) ⟨Nat.le_of_ble_eq_true rfl, Nat.le_of_ble_eq_true rfl⟩) (xP_S (Cut.nil _) hP hD hS hA hK hG hX hZ) rfl rfl hl.1 rfl (lv_room (Nat.le_of_ble_eq_true rfl)) dX5_wire_8 ⟨Nat.le_of_ble_eq_true rfl, Nat.le_of_ble_eq_true rfl⟩) (Cut.nil _) rfl hP hD hS hA (fun E ce q9 H locs hE hce hcv hcl hP hD hS => hO _ ls H locs _ E ce q9 hE hce hcv hcl hP hD hS)
  refine cl_v (va_runS (As := [.int x3, .int x4]) (rest := []) S (mX5_needPort l D cI cZ x3 x4 H.size q8 h8) (va_cwS 2 hts gX5_wire_X5_needPort rfl rfl rfl (by decide +kernel) ⟨Nat.le_of_ble_eq_true rfl, Nat.le_of_ble_eq_true rfl⟩) (mP_S (Cut.nil _) hP hD hK hG) rfl rfl hl.1 rfl (lv_room (Nat.le_of_ble_eq_true rfl)) dX5_wire_8 ⟨Nat.le_of_ble_eq_true rfl, Nat.le_of_ble_eq_true rfl⟩) (Cut.nil _) hP hD hS hA (fun H locs hP hD hS => ?_)
  refine lv_iload_n hx hb dX5_wire_11 rfl (lv_at hl 1 rfl) ?_
  refine lv_iload_n hx hb dX5_wire_12 rfl (lv_at hl 3 rfl) ?_
  refine lv_icmp_ne (tgt := 26) hx hb dX5_wire_13 (by decide) (fun c13 => ?_) (fun c13 => ?_)
  · have hf := if_f c13 hf
    refine lv_iload hx hb dX5_wire_26 (lv_at hl 5 rfl) ?_
    refine lv_iconst (v := 1) hx hb dX5_wire_28 (by decide) ?_
    refine lv_bipush (v := 100) hx hb dX5_wire_29 (by decide) ?_
    rcases bx_r hf with h31x | ⟨q31, h31, hf⟩
    · exact clx_v (k := res) (vx_runS (As := [.int x5, .int 1, .int 100]) (rest := []) S (xX5_needWithin l hfl D cI cZ x5 1 100 H.size res h31x) (va_cwS 3 hts gX5_wire_X5_needWithin rfl rfl rfl (by decide +kernel) ⟨Nat.le_of_ble_eq_true rfl, Nat.le_of_ble_eq_true rfl⟩) (xP_S (Cut.nil _) hP hD hS hA hK hG hX hZ) rfl rfl hl.1 rfl (lv_room (Nat.le_of_ble_eq_true rfl)) dX5_wire_31 ⟨Nat.le_of_ble_eq_true rfl, Nat.le_of_ble_eq_true rfl⟩) (Cut.nil _) rfl hP hD hS hA (fun E ce q9 H locs hE hce hcv hcl hP hD hS => hO _ ls H locs _ E ce q9 hE hce hcv hcl hP hD hS)
    refine cl_v (va_runS (As := [.int x5, .int 1, .int 100]) (rest := []) S (mX5_needWithin l D cI cZ x5 1 100 H.size q31 h31) (va_cwS 3 hts gX5_wire_X5_needWithin rfl rfl rfl (by decide +kernel) ⟨Nat.le_of_ble_eq_true rfl, Nat.le_of_ble_eq_true rfl⟩) (mP_S (Cut.nil _) hP hD hK hG) rfl rfl hl.1 rfl (lv_room (Nat.le_of_ble_eq_true rfl)) dX5_wire_31 ⟨Nat.le_of_ble_eq_true rfl, Nat.le_of_ble_eq_true rfl⟩) (Cut.nil _) hP hD hS hA (fun H locs hP hD hS => ?_)
    refine lv_iload_n hx hb dX5_wire_34 rfl (lv_at hl 1 rfl) ?_
    refine lv_iload_n hx hb dX5_wire_35 rfl (lv_at hl 2 rfl) ?_
    obtain ⟨q36, h36, hf⟩ := bd_t hf
    refine cl_i (va_runS (As := [.int x1, .int x2]) (rest := []) S (mX5_spotOf l D cI cZ x1 x2 H.size q36 h36) (va_cwS 2 hts gX5_wire_X5_spotOf rfl rfl rfl (by decide +kernel) ⟨Nat.le_of_ble_eq_true rfl, Nat.le_of_ble_eq_true rfl⟩) (mP_S (Cut.nil _) hP hD hK hG) rfl rfl hl.1 rfl (lv_room (Nat.le_of_ble_eq_true rfl)) dX5_wire_36 ⟨Nat.le_of_ble_eq_true rfl, Nat.le_of_ble_eq_true rfl⟩) (Cut.nil _) hP hD hS hA (fun H locs hP hD hS => ?_)
    refine lv_istore (lv' := [(6, .int q36), (0, .ref (A 0)), (1, .int x1), (2, .int x2), (3, .int x3), (4, .int x4), (5, .int x5)]) hx hb dX5_wire_39 hl (by decide) rfl (fun ls hl => ?_)
    refine lv_iload_n hx hb dX5_wire_41 rfl (lv_at hl 4 rfl) ?_
    refine lv_iload hx hb dX5_wire_42 (lv_at hl 5 rfl) ?_
    obtain ⟨q44, h44, hf⟩ := bd_t hf
    refine cl_i (va_runS (As := [.int x3, .int x4]) (rest := []) S (mX5_spotOf l D cI cZ x3 x4 H.size q44 h44) (va_cwS 2 hts gX5_wire_X5_spotOf rfl rfl rfl (by decide +kernel) ⟨Nat.le_of_ble_eq_true rfl, Nat.le_of_ble_eq_true rfl⟩) (mP_S (Cut.nil _) hP hD hK hG) rfl rfl hl.1 rfl (lv_room (Nat.le_of_ble_eq_true rfl)) dX5_wire_44 ⟨Nat.le_of_ble_eq_true rfl, Nat.le_of_ble_eq_true rfl⟩) (Cut.nil _) hP hD hS hA (fun H locs hP hD hS => ?_)
    refine lv_istore (lv' := [(7, .int q44), (6, .int q36), (0, .ref (A 0)), (1, .int x1), (2, .int x2), (3, .int x3), (4, .int x4), (5, .int x5)]) hx hb dX5_wire_47 hl (by decide) rfl (fun ls hl => ?_)
    refine lv_aload_n hx hb dX5_wire_49 rfl (lv_at hl 2 rfl) ?_
    refine ld_f S iX5 hK hP 0 0 (.ref (A 4)) (gX5_0 _ _ _ _ _ _ _ _ _ _) rfl (by decide) k12 rfl rfl dX5_wire_50 ?_
    refine lv_iload hx hb dX5_wire_53 (lv_at hl 1 rfl) ?_
    obtain ⟨q55, h55, hf⟩ := bd_t hf
    refine cl_i (va_runV (As := [.int q36]) (rest := []) S (mX4_isBare l D cI cZ (aX5_X4_1 A) cw q36 H.size q55 h55) (cwV 1 hts gX5_wire_X4_isBare rfl rfl rfl (by decide +kernel) ⟨Nat.le_of_ble_eq_true rfl, Nat.le_of_ble_eq_true rfl⟩) (mP_V (ci := 4) (cutX5_X4_1 _ _ _ _ _ _ _ _ _ _ st0) hP hD hK hG rfl (gX4_0 _ _ _ _)) rfl rfl hl.1 rfl (lv_room (Nat.le_of_ble_eq_true rfl)) dX5_wire_55 ⟨Nat.le_of_ble_eq_true rfl, Nat.le_of_ble_eq_true rfl⟩) (cutX5_X4_1 _ _ _ _ _ _ _ _ _ _ _) hP hD hS hA (fun H locs hP hD hS => ?_)
    refine lv_if_eq (tgt := 73) hx hb dX5_wire_58 (by decide) (fun c58 => ?_) (fun c58 => ?_)
    · have hf := if_t c58 hf
      cases hf
      exact hT _ ls H locs _ 86 88 "a port is taken" (by decide) (by decide +kernel) xc3 xi3 (fun w h => hts w (xw3 w h)) dX5_wire_73 dX5_wire_76 dX5_wire_77 dX5_wire_79 dX5_wire_82 hl.1 (Nat.le_of_ble_eq_true rfl) hP hD hS
    · have hf := if_f c58 hf
      refine lv_aload_n hx hb dX5_wire_61 rfl (lv_at hl 2 rfl) ?_
      refine ld_f S iX5 hK hP 0 0 (.ref (A 4)) (gX5_0 _ _ _ _ _ _ _ _ _ _) rfl (by decide) k12 rfl rfl dX5_wire_62 ?_
      refine lv_iload hx hb dX5_wire_65 (lv_at hl 0 rfl) ?_
      obtain ⟨q67, h67, hf⟩ := bd_t hf
      refine cl_i (va_runV (As := [.int q44]) (rest := []) S (mX4_isBare l D cI cZ (aX5_X4_1 A) cw q44 H.size q67 h67) (cwV 1 hts gX5_wire_X4_isBare rfl rfl rfl (by decide +kernel) ⟨Nat.le_of_ble_eq_true rfl, Nat.le_of_ble_eq_true rfl⟩) (mP_V (ci := 4) (cutX5_X4_1 _ _ _ _ _ _ _ _ _ _ st0) hP hD hK hG rfl (gX4_0 _ _ _ _)) rfl rfl hl.1 rfl (lv_room (Nat.le_of_ble_eq_true rfl)) dX5_wire_67 ⟨Nat.le_of_ble_eq_true rfl, Nat.le_of_ble_eq_true rfl⟩) (cutX5_X4_1 _ _ _ _ _ _ _ _ _ _ _) hP hD hS hA (fun H locs hP hD hS => ?_)
      refine lv_if_ne (tgt := 83) hx hb dX5_wire_70 (by decide) (fun c70 => ?_) (fun c70 => ?_)
      · have hf := if_f c70 hf
        refine lv_aload_n hx hb dX5_wire_83 rfl (lv_at hl 2 rfl) ?_
        refine ld_f S iX5 hK hP 0 0 (.ref (A 4)) (gX5_0 _ _ _ _ _ _ _ _ _ _) rfl (by decide) k12 rfl rfl dX5_wire_84 ?_
        refine lv_iload hx hb dX5_wire_87 (lv_at hl 1 rfl) ?_
        refine lv_iload hx hb dX5_wire_89 (lv_at hl 0 rfl) ?_
        refine lv_iload hx hb dX5_wire_91 (lv_at hl 7 rfl) ?_
        obtain ⟨q93, h93, hf⟩ := bd_t hf
        refine cl_v (va_runV (As := [.int q36, .int q44, .int x5]) (rest := []) S (mX4_putWire l D cI cZ (aX5_X4_1 A) cw q36 q44 x5 H.size q93 h93) (cwV 3 hts gX5_wire_X4_putWire rfl rfl rfl (by decide +kernel) ⟨Nat.le_of_ble_eq_true rfl, Nat.le_of_ble_eq_true rfl⟩) (mP_V (ci := 4) (cutX5_X4_1 _ _ _ _ _ _ _ _ _ _ st0) hP hD hK hG rfl (gX4_0 _ _ _ _)) rfl rfl hl.1 rfl (lv_room (Nat.le_of_ble_eq_true rfl)) dX5_wire_93 ⟨Nat.le_of_ble_eq_true rfl, Nat.le_of_ble_eq_true rfl⟩) (cutX5_X4_1 _ _ _ _ _ _ _ _ _ _ _) hP hD hS hA (fun H locs hP hD hS => ?_)
        refine lv_aload_n hx hb dX5_wire_96 rfl (lv_at hl 2 rfl) ?_
        refine ld_f S iX5 hK hP 0 0 (.ref (A 4)) (gX5_0 _ _ _ _ _ _ _ _ _ _) rfl (by decide) k12 rfl rfl dX5_wire_97 ?_
        refine ld_f S iX4 hK hP 4 6 (.int (q93 6 0)) (gX5_4 _ _ _ _ _ _ _ _ _ _) rfl (by decide) k94 rfl rfl dX5_wire_100 ?_
        cases hf
      · have hf := if_t c70 hf
        cases hf
        exact hT _ ls H locs _ 86 88 "a port is taken" (by decide) (by decide +kernel) xc3 xi3 (fun w h => hts w (xw3 w h)) dX5_wire_73 dX5_wire_76 dX5_wire_77 dX5_wire_79 dX5_wire_82 hl.1 (Nat.le_of_ble_eq_true rfl) hP hD hS
  · have hf := if_t c13 hf
    cases hf
    exact hT _ ls H locs _ 67 69 "a wire leads to another switch" (by decide) (by decide +kernel) xc2 xi2 (fun w h => hts w (xw2 w h)) dX5_wire_16 dX5_wire_19 dX5_wire_20 dX5_wire_22 dX5_wire_25 hl.1 (Nat.le_of_ble_eq_true rfl) hP hD hS
set_option maxHeartbeats 4000000 in
set_option maxRecDepth 100000 in
theorem xX5_free (l : Launch) (hfl : l.stackTraces = false) (D : va_G) (cI cZ : ClassId) (A : Nat → Nat)  (cs : St) (cw : St) (ct : St) (cu : St) (cl : St) (cb : St) (cp : St) (x1 : Int32) (x2 : Int32) (sz : Nat) (res : Nat) (hf : fX5_free cw ct cb x1 x2 = some (.inr res)) : vx_Met l yX5_free wsX5_free ({ frames := 8, cells := 1, slots := 6, locals := 137 }) (xP D (tysX cI cZ) [.ref (A 0), .int x1, .int x2] (wX5 cI cZ A cs cw ct cu cl cb cp) sz) (xQi (va_A (wX5 cI cZ A cs cw ct cu cl cb cp) sz)) (xC D (wX5 cI cZ A cs cw ct cu cl cb cp) res sz) 1 6 (va_A (wX5 cI cZ A cs cw ct cu cl cb cp) sz) := by
  refine mkX (cc := cX5_free) (maxL := 5) hfl (by decide +kernel) rfl rfl (Nat.le_of_ble_eq_true rfl) (by decide) ?_
  intro p e s m args below meth c A0 Q S hK hG hX hZ hA hT hTW hO
  obtain ⟨hx, hb, hml, hown, hts⟩ := id S
  have k12 := hts (.fieldLink RX5 12 "SwitchFloor" "wiring" "LSwitchFloor$Wiring;") (by decide +kernel)
  have iX5 : ∀ w ∈ wsX50, w ∈ wsX5_free := by decide +kernel
  have k99 := hts (.fieldLink RX5 99 "SwitchFloor$Wiring" "peer" "[I") (by decide +kernel)
  have iX4 : ∀ w ∈ wsX40, w ∈ wsX5_free := by decide +kernel
  have xw3 : ∀ w ∈ (vx_atS RX5 (xIc 3) (xn 3) xNames).filter goodWord, w ∈ wsX5_free := by decide +kernel
  have xc3 := hts (.classLink RX5 86 "java/lang/IllegalStateException") (by decide +kernel)
  have xi3 := hts (.initialized "java/lang/IllegalStateException") (by decide +kernel)
  intro H locs hP hD hS ls hl
  have hl : lv_has ls 5 [(0, .ref (A 0)), (1, .int x1), (2, .int x2)] := hl
  unfold fX5_free at hf
  refine lv_iload_n hx hb dX5_free_0 rfl (lv_at hl 1 rfl) ?_
  refine lv_iload_n hx hb dX5_free_1 rfl (lv_at hl 2 rfl) ?_
  rcases bx_r hf with h2x | ⟨q2, h2, hf⟩
  · exact clx_v (k := res) (vx_runS (As := [.int x1, .int x2]) (rest := []) S (xX5_needPort l hfl D cI cZ x1 x2 H.size res h2x) (va_cwS 2 hts gX5_free_X5_needPort rfl rfl rfl (by decide +kernel) ⟨Nat.le_of_ble_eq_true rfl, Nat.le_of_ble_eq_true rfl⟩) (xP_S (Cut.nil _) hP hD hS hA hK hG hX hZ) rfl rfl hl.1 rfl (lv_room (Nat.le_of_ble_eq_true rfl)) dX5_free_2 ⟨Nat.le_of_ble_eq_true rfl, Nat.le_of_ble_eq_true rfl⟩) (Cut.nil _) rfl hP hD hS hA (fun E ce q9 H locs hE hce hcv hcl hP hD hS => hO _ ls H locs _ E ce q9 hE hce hcv hcl hP hD hS)
  refine cl_v (va_runS (As := [.int x1, .int x2]) (rest := []) S (mX5_needPort l D cI cZ x1 x2 H.size q2 h2) (va_cwS 2 hts gX5_free_X5_needPort rfl rfl rfl (by decide +kernel) ⟨Nat.le_of_ble_eq_true rfl, Nat.le_of_ble_eq_true rfl⟩) (mP_S (Cut.nil _) hP hD hK hG) rfl rfl hl.1 rfl (lv_room (Nat.le_of_ble_eq_true rfl)) dX5_free_2 ⟨Nat.le_of_ble_eq_true rfl, Nat.le_of_ble_eq_true rfl⟩) (Cut.nil _) hP hD hS hA (fun H locs hP hD hS => ?_)
  refine lv_iload_n hx hb dX5_free_5 rfl (lv_at hl 1 rfl) ?_
  refine lv_iload_n hx hb dX5_free_6 rfl (lv_at hl 2 rfl) ?_
  obtain ⟨q7, h7, hf⟩ := bd_t hf
  refine cl_i (va_runS (As := [.int x1, .int x2]) (rest := []) S (mX5_spotOf l D cI cZ x1 x2 H.size q7 h7) (va_cwS 2 hts gX5_free_X5_spotOf rfl rfl rfl (by decide +kernel) ⟨Nat.le_of_ble_eq_true rfl, Nat.le_of_ble_eq_true rfl⟩) (mP_S (Cut.nil _) hP hD hK hG) rfl rfl hl.1 rfl (lv_room (Nat.le_of_ble_eq_true rfl)) dX5_free_7 ⟨Nat.le_of_ble_eq_true rfl, Nat.le_of_ble_eq_true rfl⟩) (Cut.nil _) hP hD hS hA (fun H locs hP hD hS => ?_)
  refine lv_istore_n (lv' := [(3, .int q7), (0, .ref (A 0)), (1, .int x1), (2, .int x2)]) hx hb dX5_free_10 rfl hl (by decide) rfl (fun ls hl => ?_)
  refine lv_aload_n hx hb dX5_free_11 rfl (lv_at hl 1 rfl) ?_
  refine ld_f S iX5 hK hP 0 0 (.ref (A 4)) (gX5_0 _ _ _ _ _ _ _ _ _ _) rfl (by decide) k12 rfl rfl dX5_free_12 ?_
  refine lv_iload_n hx hb dX5_free_15 rfl (lv_at hl 0 rfl) ?_
  obtain ⟨q16, h16, hf⟩ := bd_t hf
  refine cl_i (va_runV (As := [.int q7]) (rest := []) S (mX4_isBare l D cI cZ (aX5_X4_1 A) cw q7 H.size q16 h16) (cwV 1 hts gX5_free_X4_isBare rfl rfl rfl (by decide +kernel) ⟨Nat.le_of_ble_eq_true rfl, Nat.le_of_ble_eq_true rfl⟩) (mP_V (ci := 4) (cutX5_X4_1 _ _ _ _ _ _ _ _ _ _ st0) hP hD hK hG rfl (gX4_0 _ _ _ _)) rfl rfl hl.1 rfl (lv_room (Nat.le_of_ble_eq_true rfl)) dX5_free_16 ⟨Nat.le_of_ble_eq_true rfl, Nat.le_of_ble_eq_true rfl⟩) (cutX5_X4_1 _ _ _ _ _ _ _ _ _ _ _) hP hD hS hA (fun H locs hP hD hS => ?_)
  refine lv_if_eq (tgt := 32) hx hb dX5_free_19 (by decide) (fun c19 => ?_) (fun c19 => ?_)
  · have hf := if_t c19 hf
    refine lv_aload_n hx hb dX5_free_32 rfl (lv_at hl 1 rfl) ?_
    refine ld_f S iX5 hK hP 0 0 (.ref (A 4)) (gX5_0 _ _ _ _ _ _ _ _ _ _) rfl (by decide) k12 rfl rfl dX5_free_33 ?_
    refine ld_f S iX4 hK hP 4 0 (.ref (A 5)) (gX5_4 _ _ _ _ _ _ _ _ _ _) rfl (by decide) k99 rfl rfl dX5_free_36 ?_
    refine lv_iload_n hx hb dX5_free_39 rfl (lv_at hl 0 rfl) ?_
    obtain ⟨c40, hf⟩ := ck_t hf
    refine va_iald (f := cw 0) hx hb hK hP 5 0 (gX5_5 _ _ _ _ _ _ _ _ _ _) rfl (inb_in c40) dX5_free_40 ?_
    refine lv_istore (lv' := [(4, .int (cw 0 q7.toNatClampNeg)), (3, .int q7), (0, .ref (A 0)), (1, .int x1), (2, .int x2)]) hx hb dX5_free_41 hl (by decide) rfl (fun ls hl => ?_)
    refine lv_iload hx hb dX5_free_43 (lv_at hl 0 rfl) ?_
    refine lv_iconst (v := (-1)) hx hb dX5_free_45 (by decide) ?_
    refine lv_icmp_ne (tgt := 63) hx hb dX5_free_46 (by decide) (fun c46 => ?_) (fun c46 => ?_)
    · have hf := if_f c46 hf
      refine lv_aload_n hx hb dX5_free_63 rfl (lv_at hl 2 rfl) ?_
      refine lv_iload_n hx hb dX5_free_64 rfl (lv_at hl 1 rfl) ?_
      obtain ⟨q65, h65, hf⟩ := bd_t hf
      refine cl_v (va_runV (As := [.int q7]) (rest := []) S (mX5_dropUse l D cI cZ A cs cw ct cu cl cb cp q7 H.size q65 h65) (cwV 1 hts gX5_free_X5_dropUse rfl rfl rfl (by decide +kernel) ⟨Nat.le_of_ble_eq_true rfl, Nat.le_of_ble_eq_true rfl⟩) (mP_V (ci := 5) (Cut.self _ []) hP hD hK hG rfl (gX5_0 _ _ _ _ _ _ _ _ _ _)) rfl rfl hl.1 rfl (lv_room (Nat.le_of_ble_eq_true rfl)) dX5_free_65 ⟨Nat.le_of_ble_eq_true rfl, Nat.le_of_ble_eq_true rfl⟩) (Cut.self _ _) hP hD hS hA (fun H locs hP hD hS => ?_)
      refine lv_aload_n hx hb dX5_free_68 rfl (lv_at hl 2 rfl) ?_
      refine lv_iload hx hb dX5_free_69 (lv_at hl 0 rfl) ?_
      obtain ⟨q71, h71, hf⟩ := bd_t hf
      refine cl_v (va_runV (As := [.int (cw 0 q7.toNatClampNeg)]) (rest := []) S (mX5_dropUse l D cI cZ A cs cw (q65.1) cu cl (q65.2) cp (cw 0 q7.toNatClampNeg) H.size q71 h71) (cwV 1 hts gX5_free_X5_dropUse rfl rfl rfl (by decide +kernel) ⟨Nat.le_of_ble_eq_true rfl, Nat.le_of_ble_eq_true rfl⟩) (mP_V (ci := 5) (Cut.self _ []) hP hD hK hG rfl (gX5_0 _ _ _ _ _ _ _ _ _ _)) rfl rfl hl.1 rfl (lv_room (Nat.le_of_ble_eq_true rfl)) dX5_free_71 ⟨Nat.le_of_ble_eq_true rfl, Nat.le_of_ble_eq_true rfl⟩) (Cut.self _ _) hP hD hS hA (fun H locs hP hD hS => ?_)
      refine lv_aload_n hx hb dX5_free_74 rfl (lv_at hl 2 rfl) ?_
      refine ld_f S iX5 hK hP 0 0 (.ref (A 4)) (gX5_0 _ _ _ _ _ _ _ _ _ _) rfl (by decide) k12 rfl rfl dX5_free_75 ?_
      refine lv_iload_n hx hb dX5_free_78 rfl (lv_at hl 1 rfl) ?_
      refine lv_iload hx hb dX5_free_79 (lv_at hl 0 rfl) ?_
      obtain ⟨q81, h81, hf⟩ := bd_t hf
      refine cl_v (va_runV (As := [.int q7, .int (cw 0 q7.toNatClampNeg)]) (rest := []) S (mX4_takeWire l D cI cZ (aX5_X4_1 A) cw q7 (cw 0 q7.toNatClampNeg) H.size q81 h81) (cwV 2 hts gX5_free_X4_takeWire rfl rfl rfl (by decide +kernel) ⟨Nat.le_of_ble_eq_true rfl, Nat.le_of_ble_eq_true rfl⟩) (mP_V (ci := 4) (cutX5_X4_1 _ _ _ _ _ _ _ _ _ _ st0) hP hD hK hG rfl (gX4_0 _ _ _ _)) rfl rfl hl.1 rfl (lv_room (Nat.le_of_ble_eq_true rfl)) dX5_free_81 ⟨Nat.le_of_ble_eq_true rfl, Nat.le_of_ble_eq_true rfl⟩) (cutX5_X4_1 _ _ _ _ _ _ _ _ _ _ _) hP hD hS hA (fun H locs hP hD hS => ?_)
      refine lv_iconst (v := (-1)) hx hb dX5_free_84 (by decide) ?_
      cases hf
    · have hf := if_t c46 hf
      refine lv_aload_n hx hb dX5_free_49 rfl (lv_at hl 2 rfl) ?_
      refine lv_iload_n hx hb dX5_free_50 rfl (lv_at hl 1 rfl) ?_
      obtain ⟨q51, h51, hf⟩ := bd_t hf
      refine cl_v (va_runV (As := [.int q7]) (rest := []) S (mX5_dropUse l D cI cZ A cs cw ct cu cl cb cp q7 H.size q51 h51) (cwV 1 hts gX5_free_X5_dropUse rfl rfl rfl (by decide +kernel) ⟨Nat.le_of_ble_eq_true rfl, Nat.le_of_ble_eq_true rfl⟩) (mP_V (ci := 5) (Cut.self _ []) hP hD hK hG rfl (gX5_0 _ _ _ _ _ _ _ _ _ _)) rfl rfl hl.1 rfl (lv_room (Nat.le_of_ble_eq_true rfl)) dX5_free_51 ⟨Nat.le_of_ble_eq_true rfl, Nat.le_of_ble_eq_true rfl⟩) (Cut.self _ _) hP hD hS hA (fun H locs hP hD hS => ?_)
      refine lv_aload_n hx hb dX5_free_54 rfl (lv_at hl 2 rfl) ?_
      refine ld_f S iX5 hK hP 0 0 (.ref (A 4)) (gX5_0 _ _ _ _ _ _ _ _ _ _) rfl (by decide) k12 rfl rfl dX5_free_55 ?_
      refine lv_iload_n hx hb dX5_free_58 rfl (lv_at hl 1 rfl) ?_
      obtain ⟨q59, h59, hf⟩ := bd_t hf
      refine cl_i (va_runV (As := [.int q7]) (rest := []) S (mX4_takeHouse l D cI cZ (aX5_X4_1 A) cw q7 H.size q59 h59) (cwV 1 hts gX5_free_X4_takeHouse rfl rfl rfl (by decide +kernel) ⟨Nat.le_of_ble_eq_true rfl, Nat.le_of_ble_eq_true rfl⟩) (mP_V (ci := 4) (cutX5_X4_1 _ _ _ _ _ _ _ _ _ _ st0) hP hD hK hG rfl (gX4_0 _ _ _ _)) rfl rfl hl.1 rfl (lv_room (Nat.le_of_ble_eq_true rfl)) dX5_free_59 ⟨Nat.le_of_ble_eq_true rfl, Nat.le_of_ble_eq_true rfl⟩) (cutX5_X4_1 _ _ _ _ _ _ _ _ _ _ _) hP hD hS hA (fun H locs hP hD hS => ?_)
      cases hf
  · have hf := if_f c19 hf
    cases hf
    exact hT _ ls H locs _ 86 97 "the port has neither a wire nor a house" (by decide) (by decide +kernel) xc3 xi3 (fun w h => hts w (xw3 w h)) dX5_free_22 dX5_free_25 dX5_free_26 dX5_free_28 dX5_free_31 hl.1 (Nat.le_of_ble_eq_true rfl) hP hD hS
set_option maxHeartbeats 4000000 in
set_option maxRecDepth 100000 in
theorem xX5_needHouse (l : Launch) (hfl : l.stackTraces = false) (D : va_G) (cI cZ : ClassId)  (x0 : Int32) (sz : Nat) (res : Nat) (hf : fX5_needHouse x0 = some (.inr res)) : vx_Met l yX5_needHouse wsX5_needHouse ({ frames := 6, cells := 1, slots := 6, locals := 96 }) (xP D (tysX cI cZ) [.int x0] [] sz) (xQv (va_A [] sz)) (xC D [] res sz) 1 6 (va_A [] sz) := by
  refine mkX (cc := cX5_needHouse) (maxL := 1) hfl (by decide +kernel) rfl rfl (Nat.le_of_ble_eq_true rfl) (by decide) ?_
  intro p e s m args below meth c A0 Q S hK hG hX hZ hA hT hTW hO
  obtain ⟨hx, hb, hml, hown, hts⟩ := id S
  have xw1 : ∀ w ∈ (vx_atS RX5 (xIc 1) (xn 1) xNames).filter goodWord, w ∈ wsX5_needHouse := by decide +kernel
  have xc1 := hts (.classLink RX5 251 "java/lang/IndexOutOfBoundsException") (by decide +kernel)
  have xi1 := hts (.initialized "java/lang/IndexOutOfBoundsException") (by decide +kernel)
  intro H locs hP hD hS ls hl
  have hl : lv_has ls 1 [(0, .int x0)] := hl
  unfold fX5_needHouse at hf
  refine lv_iload_n hx hb dX5_needHouse_0 rfl (lv_at hl 0 rfl) ?_
  refine lv_if_lt (tgt := 10) hx hb dX5_needHouse_1 (by decide) (fun c1 => ?_) (fun c1 => ?_)
  · have hf := if_t c1 hf
    cases hf
    exact hTW _ ls H locs _ 251 258 "no such house" (by decide) (by decide +kernel) xc1 xi1 (fun w h => hts w (xw1 w h)) dX5_needHouse_10 dX5_needHouse_13 dX5_needHouse_14 dX5_needHouse_17 dX5_needHouse_20 hl.1 (Nat.le_of_ble_eq_true rfl) hP hD hS
  · have hf := if_f c1 hf
    refine lv_iload_n hx hb dX5_needHouse_4 rfl (lv_at hl 0 rfl) ?_
    refine lv_bipush (v := 10) hx hb dX5_needHouse_5 (by decide) ?_
    refine lv_icmp_lt (tgt := 21) hx hb dX5_needHouse_7 (by decide) (fun c7 => ?_) (fun c7 => ?_)
    · have hf := if_t c7 hf
      cases hf
    · have hf := if_f c7 hf
      cases hf
      exact hTW _ ls H locs _ 251 258 "no such house" (by decide) (by decide +kernel) xc1 xi1 (fun w h => hts w (xw1 w h)) dX5_needHouse_10 dX5_needHouse_13 dX5_needHouse_14 dX5_needHouse_17 dX5_needHouse_20 hl.1 (Nat.le_of_ble_eq_true rfl) hP hD hS
set_option maxHeartbeats 4000000 in
set_option maxRecDepth 100000 in
theorem xX5_house (l : Launch) (hfl : l.stackTraces = false) (D : va_G) (cI cZ : ClassId) (A : Nat → Nat)  (cs : St) (cw : St) (ct : St) (cu : St) (cl : St) (cb : St) (cp : St) (x1 : Int32) (x2 : Int32) (x3 : Int32) (sz : Nat) (res : Nat) (hf : fX5_house cw ct x1 x2 x3 = some (.inr res)) : vx_Met l yX5_house wsX5_house ({ frames := 8, cells := 1, slots := 6, locals := 137 }) (xP D (tysX cI cZ) [.ref (A 0), .int x1, .int x2, .int x3] (wX5 cI cZ A cs cw ct cu cl cb cp) sz) (xQi (va_A (wX5 cI cZ A cs cw ct cu cl cb cp) sz)) (xC D (wX5 cI cZ A cs cw ct cu cl cb cp) res sz) 1 6 (va_A (wX5 cI cZ A cs cw ct cu cl cb cp) sz) := by
  refine mkX (cc := cX5_house) (maxL := 5) hfl (by decide +kernel) rfl rfl (Nat.le_of_ble_eq_true rfl) (by decide) ?_
  intro p e s m args below meth c A0 Q S hK hG hX hZ hA hT hTW hO
  obtain ⟨hx, hb, hml, hown, hts⟩ := id S
  have k12 := hts (.fieldLink RX5 12 "SwitchFloor" "wiring" "LSwitchFloor$Wiring;") (by decide +kernel)
  have iX5 : ∀ w ∈ wsX50, w ∈ wsX5_house := by decide +kernel
  have xw3 : ∀ w ∈ (vx_atS RX5 (xIc 3) (xn 3) xNames).filter goodWord, w ∈ wsX5_house := by decide +kernel
  have xc3 := hts (.classLink RX5 86 "java/lang/IllegalStateException") (by decide +kernel)
  have xi3 := hts (.initialized "java/lang/IllegalStateException") (by decide +kernel)
  have k116 := hts (.fieldLink RX5 116 "SwitchFloor$Wiring" "spotOfHouse" "[I") (by decide +kernel)
  have iX4 : ∀ w ∈ wsX40, w ∈ wsX5_house := by decide +kernel
  have k21 := hts (.fieldLink RX5 21 "SwitchFloor" "tree" "LSwitchFloor$Tree;") (by decide +kernel)
  have k127 := hts (.fieldLink RX5 127 "SwitchFloor$Wiring" "houses" "I") (by decide +kernel)
  intro H locs hP hD hS ls hl
  have hl : lv_has ls 5 [(0, .ref (A 0)), (1, .int x1), (2, .int x2), (3, .int x3)] := hl
  unfold fX5_house at hf
  refine lv_iload_n hx hb dX5_house_0 rfl (lv_at hl 1 rfl) ?_
  refine lv_iload_n hx hb dX5_house_1 rfl (lv_at hl 2 rfl) ?_
  rcases bx_r hf with h2x | ⟨q2, h2, hf⟩
  · exact clx_v (k := res) (vx_runS (As := [.int x1, .int x2]) (rest := []) S (xX5_needPort l hfl D cI cZ x1 x2 H.size res h2x) (va_cwS 2 hts gX5_house_X5_needPort rfl rfl rfl (by decide +kernel) ⟨Nat.le_of_ble_eq_true rfl, Nat.le_of_ble_eq_true rfl⟩) (xP_S (Cut.nil _) hP hD hS hA hK hG hX hZ) rfl rfl hl.1 rfl (lv_room (Nat.le_of_ble_eq_true rfl)) dX5_house_2 ⟨Nat.le_of_ble_eq_true rfl, Nat.le_of_ble_eq_true rfl⟩) (Cut.nil _) rfl hP hD hS hA (fun E ce q9 H locs hE hce hcv hcl hP hD hS => hO _ ls H locs _ E ce q9 hE hce hcv hcl hP hD hS)
  refine cl_v (va_runS (As := [.int x1, .int x2]) (rest := []) S (mX5_needPort l D cI cZ x1 x2 H.size q2 h2) (va_cwS 2 hts gX5_house_X5_needPort rfl rfl rfl (by decide +kernel) ⟨Nat.le_of_ble_eq_true rfl, Nat.le_of_ble_eq_true rfl⟩) (mP_S (Cut.nil _) hP hD hK hG) rfl rfl hl.1 rfl (lv_room (Nat.le_of_ble_eq_true rfl)) dX5_house_2 ⟨Nat.le_of_ble_eq_true rfl, Nat.le_of_ble_eq_true rfl⟩) (Cut.nil _) hP hD hS hA (fun H locs hP hD hS => ?_)
  refine lv_iload_n hx hb dX5_house_5 rfl (lv_at hl 3 rfl) ?_
  rcases bx_r hf with h6x | ⟨q6, h6, hf⟩
  · exact clx_v (k := res) (vx_runS (As := [.int x3]) (rest := []) S (xX5_needHouse l hfl D cI cZ x3 H.size res h6x) (va_cwS 1 hts gX5_house_X5_needHouse rfl rfl rfl (by decide +kernel) ⟨Nat.le_of_ble_eq_true rfl, Nat.le_of_ble_eq_true rfl⟩) (xP_S (Cut.nil _) hP hD hS hA hK hG hX hZ) rfl rfl hl.1 rfl (lv_room (Nat.le_of_ble_eq_true rfl)) dX5_house_6 ⟨Nat.le_of_ble_eq_true rfl, Nat.le_of_ble_eq_true rfl⟩) (Cut.nil _) rfl hP hD hS hA (fun E ce q9 H locs hE hce hcv hcl hP hD hS => hO _ ls H locs _ E ce q9 hE hce hcv hcl hP hD hS)
  refine cl_v (va_runS (As := [.int x3]) (rest := []) S (mX5_needHouse l D cI cZ x3 H.size q6 h6) (va_cwS 1 hts gX5_house_X5_needHouse rfl rfl rfl (by decide +kernel) ⟨Nat.le_of_ble_eq_true rfl, Nat.le_of_ble_eq_true rfl⟩) (mP_S (Cut.nil _) hP hD hK hG) rfl rfl hl.1 rfl (lv_room (Nat.le_of_ble_eq_true rfl)) dX5_house_6 ⟨Nat.le_of_ble_eq_true rfl, Nat.le_of_ble_eq_true rfl⟩) (Cut.nil _) hP hD hS hA (fun H locs hP hD hS => ?_)
  refine lv_iload_n hx hb dX5_house_9 rfl (lv_at hl 1 rfl) ?_
  refine lv_iload_n hx hb dX5_house_10 rfl (lv_at hl 2 rfl) ?_
  obtain ⟨q11, h11, hf⟩ := bd_t hf
  refine cl_i (va_runS (As := [.int x1, .int x2]) (rest := []) S (mX5_spotOf l D cI cZ x1 x2 H.size q11 h11) (va_cwS 2 hts gX5_house_X5_spotOf rfl rfl rfl (by decide +kernel) ⟨Nat.le_of_ble_eq_true rfl, Nat.le_of_ble_eq_true rfl⟩) (mP_S (Cut.nil _) hP hD hK hG) rfl rfl hl.1 rfl (lv_room (Nat.le_of_ble_eq_true rfl)) dX5_house_11 ⟨Nat.le_of_ble_eq_true rfl, Nat.le_of_ble_eq_true rfl⟩) (Cut.nil _) hP hD hS hA (fun H locs hP hD hS => ?_)
  refine lv_istore (lv' := [(4, .int q11), (0, .ref (A 0)), (1, .int x1), (2, .int x2), (3, .int x3)]) hx hb dX5_house_14 hl (by decide) rfl (fun ls hl => ?_)
  refine lv_aload_n hx hb dX5_house_16 rfl (lv_at hl 1 rfl) ?_
  refine ld_f S iX5 hK hP 0 0 (.ref (A 4)) (gX5_0 _ _ _ _ _ _ _ _ _ _) rfl (by decide) k12 rfl rfl dX5_house_17 ?_
  refine lv_iload hx hb dX5_house_20 (lv_at hl 0 rfl) ?_
  obtain ⟨q22, h22, hf⟩ := bd_t hf
  refine cl_i (va_runV (As := [.int q11]) (rest := []) S (mX4_isBare l D cI cZ (aX5_X4_1 A) cw q11 H.size q22 h22) (cwV 1 hts gX5_house_X4_isBare rfl rfl rfl (by decide +kernel) ⟨Nat.le_of_ble_eq_true rfl, Nat.le_of_ble_eq_true rfl⟩) (mP_V (ci := 4) (cutX5_X4_1 _ _ _ _ _ _ _ _ _ _ st0) hP hD hK hG rfl (gX4_0 _ _ _ _)) rfl rfl hl.1 rfl (lv_room (Nat.le_of_ble_eq_true rfl)) dX5_house_22 ⟨Nat.le_of_ble_eq_true rfl, Nat.le_of_ble_eq_true rfl⟩) (cutX5_X4_1 _ _ _ _ _ _ _ _ _ _ _) hP hD hS hA (fun H locs hP hD hS => ?_)
  refine lv_if_eq (tgt := 41) hx hb dX5_house_25 (by decide) (fun c25 => ?_) (fun c25 => ?_)
  · have hf := if_t c25 hf
    cases hf
    exact hT _ ls H locs _ 86 119 "the port or the house is taken" (by decide) (by decide +kernel) xc3 xi3 (fun w h => hts w (xw3 w h)) dX5_house_41 dX5_house_44 dX5_house_45 dX5_house_47 dX5_house_50 hl.1 (Nat.le_of_ble_eq_true rfl) hP hD hS
  · have hf := if_f c25 hf
    refine lv_aload_n hx hb dX5_house_28 rfl (lv_at hl 1 rfl) ?_
    refine ld_f S iX5 hK hP 0 0 (.ref (A 4)) (gX5_0 _ _ _ _ _ _ _ _ _ _) rfl (by decide) k12 rfl rfl dX5_house_29 ?_
    refine ld_f S iX4 hK hP 4 4 (.ref (A 9)) (gX5_4 _ _ _ _ _ _ _ _ _ _) rfl (by decide) k116 rfl rfl dX5_house_32 ?_
    refine lv_iload_n hx hb dX5_house_35 rfl (lv_at hl 4 rfl) ?_
    obtain ⟨c36, hf⟩ := ck_t hf
    refine va_iald (f := cw 4) hx hb hK hP 9 0 (gX5_9 _ _ _ _ _ _ _ _ _ _) rfl (inb_in c36) dX5_house_36 ?_
    refine lv_iconst (v := (-1)) hx hb dX5_house_37 (by decide) ?_
    refine lv_icmp_eq (tgt := 51) hx hb dX5_house_38 (by decide) (fun c38 => ?_) (fun c38 => ?_)
    · have hf := if_t c38 hf
      refine lv_aload_n hx hb dX5_house_51 rfl (lv_at hl 1 rfl) ?_
      refine ld_f S iX5 hK hP 0 0 (.ref (A 4)) (gX5_0 _ _ _ _ _ _ _ _ _ _) rfl (by decide) k12 rfl rfl dX5_house_52 ?_
      refine lv_iload hx hb dX5_house_55 (lv_at hl 0 rfl) ?_
      refine lv_iload_n hx hb dX5_house_57 rfl (lv_at hl 4 rfl) ?_
      obtain ⟨q58, h58, hf⟩ := bd_t hf
      refine cl_v (va_runV (As := [.int q11, .int x3]) (rest := []) S (mX4_putHouse l D cI cZ (aX5_X4_1 A) cw q11 x3 H.size q58 h58) (cwV 2 hts gX5_house_X4_putHouse rfl rfl rfl (by decide +kernel) ⟨Nat.le_of_ble_eq_true rfl, Nat.le_of_ble_eq_true rfl⟩) (mP_V (ci := 4) (cutX5_X4_1 _ _ _ _ _ _ _ _ _ _ st0) hP hD hK hG rfl (gX4_0 _ _ _ _)) rfl rfl hl.1 rfl (lv_room (Nat.le_of_ble_eq_true rfl)) dX5_house_58 ⟨Nat.le_of_ble_eq_true rfl, Nat.le_of_ble_eq_true rfl⟩) (cutX5_X4_1 _ _ _ _ _ _ _ _ _ _ _) hP hD hS hA (fun H locs hP hD hS => ?_)
      refine lv_aload_n hx hb dX5_house_61 rfl (lv_at hl 1 rfl) ?_
      refine ld_f S iX5 hK hP 0 1 (.ref (A 11)) (gX5_0 _ _ _ _ _ _ _ _ _ _) rfl (by decide) k21 rfl rfl dX5_house_62 ?_
      refine lv_iload hx hb dX5_house_65 (lv_at hl 0 rfl) ?_
      obtain ⟨q67, h67, hf⟩ := bd_t hf
      refine cl_v (va_runV (As := [.int q11]) (rest := []) S (mX3_openForHouse l D cI cZ (aX5_X3_2_1 A) ct q58 q11 H.size q67 h67) (cwV 1 hts gX5_house_X3_openForHouse rfl rfl rfl (by decide +kernel) ⟨Nat.le_of_ble_eq_true rfl, Nat.le_of_ble_eq_true rfl⟩) (mP_V (ci := 3) (cutX5_X3_2_1 _ _ _ _ _ _ _ _ _ _ st0 st0) hP hD hK hG rfl (gX3_0 _ _ _ _ _)) rfl rfl hl.1 rfl (lv_room (Nat.le_of_ble_eq_true rfl)) dX5_house_67 ⟨Nat.le_of_ble_eq_true rfl, Nat.le_of_ble_eq_true rfl⟩) (cutX5_X3_2_1 _ _ _ _ _ _ _ _ _ _ _ _) hP hD hS hA (fun H locs hP hD hS => ?_)
      refine lv_aload_n hx hb dX5_house_70 rfl (lv_at hl 1 rfl) ?_
      refine ld_f S iX5 hK hP 0 0 (.ref (A 4)) (gX5_0 _ _ _ _ _ _ _ _ _ _) rfl (by decide) k12 rfl rfl dX5_house_71 ?_
      refine ld_f S iX4 hK hP 4 7 (.int (q58 7 0)) (gX5_4 _ _ _ _ _ _ _ _ _ _) rfl (by decide) k127 rfl rfl dX5_house_74 ?_
      cases hf
    · have hf := if_f c38 hf
      cases hf
      exact hT _ ls H locs _ 86 119 "the port or the house is taken" (by decide) (by decide +kernel) xc3 xi3 (fun w h => hts w (xw3 w h)) dX5_house_41 dX5_house_44 dX5_house_45 dX5_house_47 dX5_house_50 hl.1 (Nat.le_of_ble_eq_true rfl) hP hD hS
set_option maxHeartbeats 4000000 in
set_option maxRecDepth 100000 in
theorem xX5_rank (l : Launch) (hfl : l.stackTraces = false) (D : va_G) (cI cZ : ClassId) (A : Nat → Nat)  (cs : St) (cw : St) (ct : St) (cu : St) (cl : St) (cb : St) (cp : St) (x1 : Int32) (x2 : Int32) (sz : Nat) (res : Nat) (hf : fX5_rank cw x1 x2 = some (.inr res)) : vx_Met l yX5_rank wsX5_rank ({ frames := 7, cells := 1, slots := 6, locals := 118 }) (xP D (tysX cI cZ) [.ref (A 0), .int x1, .int x2] (wX5 cI cZ A cs cw ct cu cl cb cp) sz) (xQi (va_A (wX5 cI cZ A cs cw ct cu cl cb cp) sz)) (xC D (wX5 cI cZ A cs cw ct cu cl cb cp) res sz) 1 6 (va_A (wX5 cI cZ A cs cw ct cu cl cb cp) sz) := by
  refine mkX (cc := cX5_rank) (maxL := 4) hfl (by decide +kernel) rfl rfl (Nat.le_of_ble_eq_true rfl) (by decide) ?_
  intro p e s m args below meth c A0 Q S hK hG hX hZ hA hT hTW hO
  obtain ⟨hx, hb, hml, hown, hts⟩ := id S
  have k12 := hts (.fieldLink RX5 12 "SwitchFloor" "wiring" "LSwitchFloor$Wiring;") (by decide +kernel)
  have iX5 : ∀ w ∈ wsX50, w ∈ wsX5_rank := by decide +kernel
  have k133 := hts (.fieldLink RX5 133 "SwitchFloor$Wiring" "rank" "[I") (by decide +kernel)
  have iX4 : ∀ w ∈ wsX40, w ∈ wsX5_rank := by decide +kernel
  intro H locs hP hD hS ls hl
  have hl : lv_has ls 4 [(0, .ref (A 0)), (1, .int x1), (2, .int x2)] := hl
  unfold fX5_rank at hf
  refine lv_iload_n hx hb dX5_rank_0 rfl (lv_at hl 1 rfl) ?_
  rcases bx_r hf with h1x | ⟨q1, h1, hf⟩
  · exact clx_v (k := res) (vx_runS (As := [.int x1]) (rest := []) S (xX5_needSwitch l hfl D cI cZ x1 H.size res h1x) (va_cwS 1 hts gX5_rank_X5_needSwitch rfl rfl rfl (by decide +kernel) ⟨Nat.le_of_ble_eq_true rfl, Nat.le_of_ble_eq_true rfl⟩) (xP_S (Cut.nil _) hP hD hS hA hK hG hX hZ) rfl rfl hl.1 rfl (lv_room (Nat.le_of_ble_eq_true rfl)) dX5_rank_1 ⟨Nat.le_of_ble_eq_true rfl, Nat.le_of_ble_eq_true rfl⟩) (Cut.nil _) rfl hP hD hS hA (fun E ce q9 H locs hE hce hcv hcl hP hD hS => hO _ ls H locs _ E ce q9 hE hce hcv hcl hP hD hS)
  refine cl_v (va_runS (As := [.int x1]) (rest := []) S (mX5_needSwitch l D cI cZ x1 H.size q1 h1) (va_cwS 1 hts gX5_rank_X5_needSwitch rfl rfl rfl (by decide +kernel) ⟨Nat.le_of_ble_eq_true rfl, Nat.le_of_ble_eq_true rfl⟩) (mP_S (Cut.nil _) hP hD hK hG) rfl rfl hl.1 rfl (lv_room (Nat.le_of_ble_eq_true rfl)) dX5_rank_1 ⟨Nat.le_of_ble_eq_true rfl, Nat.le_of_ble_eq_true rfl⟩) (Cut.nil _) hP hD hS hA (fun H locs hP hD hS => ?_)
  refine lv_iload_n hx hb dX5_rank_4 rfl (lv_at hl 2 rfl) ?_
  refine lv_iconst (v := 0) hx hb dX5_rank_5 (by decide) ?_
  refine lv_bipush (v := 15) hx hb dX5_rank_6 (by decide) ?_
  rcases bx_r hf with h8x | ⟨q8, h8, hf⟩
  · exact clx_v (k := res) (vx_runS (As := [.int x2, .int 0, .int 15]) (rest := []) S (xX5_needWithin l hfl D cI cZ x2 0 15 H.size res h8x) (va_cwS 3 hts gX5_rank_X5_needWithin rfl rfl rfl (by decide +kernel) ⟨Nat.le_of_ble_eq_true rfl, Nat.le_of_ble_eq_true rfl⟩) (xP_S (Cut.nil _) hP hD hS hA hK hG hX hZ) rfl rfl hl.1 rfl (lv_room (Nat.le_of_ble_eq_true rfl)) dX5_rank_8 ⟨Nat.le_of_ble_eq_true rfl, Nat.le_of_ble_eq_true rfl⟩) (Cut.nil _) rfl hP hD hS hA (fun E ce q9 H locs hE hce hcv hcl hP hD hS => hO _ ls H locs _ E ce q9 hE hce hcv hcl hP hD hS)
  refine cl_v (va_runS (As := [.int x2, .int 0, .int 15]) (rest := []) S (mX5_needWithin l D cI cZ x2 0 15 H.size q8 h8) (va_cwS 3 hts gX5_rank_X5_needWithin rfl rfl rfl (by decide +kernel) ⟨Nat.le_of_ble_eq_true rfl, Nat.le_of_ble_eq_true rfl⟩) (mP_S (Cut.nil _) hP hD hK hG) rfl rfl hl.1 rfl (lv_room (Nat.le_of_ble_eq_true rfl)) dX5_rank_8 ⟨Nat.le_of_ble_eq_true rfl, Nat.le_of_ble_eq_true rfl⟩) (Cut.nil _) hP hD hS hA (fun H locs hP hD hS => ?_)
  refine lv_aload_n hx hb dX5_rank_11 rfl (lv_at hl 0 rfl) ?_
  refine ld_f S iX5 hK hP 0 0 (.ref (A 4)) (gX5_0 _ _ _ _ _ _ _ _ _ _) rfl (by decide) k12 rfl rfl dX5_rank_12 ?_
  refine ld_f S iX4 hK hP 4 5 (.ref (A 10)) (gX5_4 _ _ _ _ _ _ _ _ _ _) rfl (by decide) k133 rfl rfl dX5_rank_15 ?_
  refine lv_iload_n hx hb dX5_rank_18 rfl (lv_at hl 1 rfl) ?_
  obtain ⟨c19, hf⟩ := ck_t hf
  refine va_iald (f := cw 5) hx hb hK hP 10 0 (gX5_10 _ _ _ _ _ _ _ _ _ _) rfl (inb_in c19) dX5_rank_19 ?_
  refine lv_istore_n (lv' := [(3, .int (cw 5 x1.toNatClampNeg)), (0, .ref (A 0)), (1, .int x1), (2, .int x2)]) hx hb dX5_rank_20 rfl hl (by decide) rfl (fun ls hl => ?_)
  refine lv_aload_n hx hb dX5_rank_21 rfl (lv_at hl 1 rfl) ?_
  refine ld_f S iX5 hK hP 0 0 (.ref (A 4)) (gX5_0 _ _ _ _ _ _ _ _ _ _) rfl (by decide) k12 rfl rfl dX5_rank_22 ?_
  refine ld_f S iX4 hK hP 4 5 (.ref (A 10)) (gX5_4 _ _ _ _ _ _ _ _ _ _) rfl (by decide) k133 rfl rfl dX5_rank_25 ?_
  refine lv_iload_n hx hb dX5_rank_28 rfl (lv_at hl 2 rfl) ?_
  refine lv_iload_n hx hb dX5_rank_29 rfl (lv_at hl 3 rfl) ?_
  obtain ⟨c30, hf⟩ := ck_t hf
  refine st_i hx hb hK hP hD hS 10 0 (sX5_10 _ _ _ _ _ _ _ _ _ _ _ _) (gX5_10 _ _ _ _ _ _ _ _ _ _) rfl c30 dX5_rank_30 (fun H locs hP hD hS => ?_)
  refine lv_iload_n hx hb dX5_rank_31 rfl (lv_at hl 0 rfl) ?_
  cases hf
set_option maxHeartbeats 4000000 in
set_option maxRecDepth 100000 in
theorem xX5_shut (l : Launch) (hfl : l.stackTraces = false) (D : va_G) (cI cZ : ClassId) (A : Nat → Nat)  (cs : St) (cw : St) (ct : St) (cu : St) (cl : St) (cb : St) (cp : St) (x1 : Int32) (x2 : Int32) (sz : Nat) (res : Nat) (hf : fX5_shut cw ct cb x1 x2 = some (.inr res)) : vx_Met l yX5_shut wsX5_shut ({ frames := 8, cells := 1, slots := 6, locals := 137 }) (xP D (tysX cI cZ) [.ref (A 0), .int x1, .int x2] (wX5 cI cZ A cs cw ct cu cl cb cp) sz) (xQi (va_A (wX5 cI cZ A cs cw ct cu cl cb cp) sz)) (xC D (wX5 cI cZ A cs cw ct cu cl cb cp) res sz) 1 6 (va_A (wX5 cI cZ A cs cw ct cu cl cb cp) sz) := by
  refine mkX (cc := cX5_shut) (maxL := 4) hfl (by decide +kernel) rfl rfl (Nat.le_of_ble_eq_true rfl) (by decide) ?_
  intro p e s m args below meth c A0 Q S hK hG hX hZ hA hT hTW hO
  obtain ⟨hx, hb, hml, hown, hts⟩ := id S
  have k21 := hts (.fieldLink RX5 21 "SwitchFloor" "tree" "LSwitchFloor$Tree;") (by decide +kernel)
  have iX5 : ∀ w ∈ wsX50, w ∈ wsX5_shut := by decide +kernel
  intro H locs hP hD hS ls hl
  have hl : lv_has ls 4 [(0, .ref (A 0)), (1, .int x1), (2, .int x2)] := hl
  unfold fX5_shut at hf
  refine lv_iload_n hx hb dX5_shut_0 rfl (lv_at hl 1 rfl) ?_
  refine lv_iload_n hx hb dX5_shut_1 rfl (lv_at hl 2 rfl) ?_
  rcases bx_r hf with h2x | ⟨q2, h2, hf⟩
  · exact clx_v (k := res) (vx_runS (As := [.int x1, .int x2]) (rest := []) S (xX5_needPort l hfl D cI cZ x1 x2 H.size res h2x) (va_cwS 2 hts gX5_shut_X5_needPort rfl rfl rfl (by decide +kernel) ⟨Nat.le_of_ble_eq_true rfl, Nat.le_of_ble_eq_true rfl⟩) (xP_S (Cut.nil _) hP hD hS hA hK hG hX hZ) rfl rfl hl.1 rfl (lv_room (Nat.le_of_ble_eq_true rfl)) dX5_shut_2 ⟨Nat.le_of_ble_eq_true rfl, Nat.le_of_ble_eq_true rfl⟩) (Cut.nil _) rfl hP hD hS hA (fun E ce q9 H locs hE hce hcv hcl hP hD hS => hO _ ls H locs _ E ce q9 hE hce hcv hcl hP hD hS)
  refine cl_v (va_runS (As := [.int x1, .int x2]) (rest := []) S (mX5_needPort l D cI cZ x1 x2 H.size q2 h2) (va_cwS 2 hts gX5_shut_X5_needPort rfl rfl rfl (by decide +kernel) ⟨Nat.le_of_ble_eq_true rfl, Nat.le_of_ble_eq_true rfl⟩) (mP_S (Cut.nil _) hP hD hK hG) rfl rfl hl.1 rfl (lv_room (Nat.le_of_ble_eq_true rfl)) dX5_shut_2 ⟨Nat.le_of_ble_eq_true rfl, Nat.le_of_ble_eq_true rfl⟩) (Cut.nil _) hP hD hS hA (fun H locs hP hD hS => ?_)
  refine lv_iload_n hx hb dX5_shut_5 rfl (lv_at hl 1 rfl) ?_
  refine lv_iload_n hx hb dX5_shut_6 rfl (lv_at hl 2 rfl) ?_
  obtain ⟨q7, h7, hf⟩ := bd_t hf
  refine cl_i (va_runS (As := [.int x1, .int x2]) (rest := []) S (mX5_spotOf l D cI cZ x1 x2 H.size q7 h7) (va_cwS 2 hts gX5_shut_X5_spotOf rfl rfl rfl (by decide +kernel) ⟨Nat.le_of_ble_eq_true rfl, Nat.le_of_ble_eq_true rfl⟩) (mP_S (Cut.nil _) hP hD hK hG) rfl rfl hl.1 rfl (lv_room (Nat.le_of_ble_eq_true rfl)) dX5_shut_7 ⟨Nat.le_of_ble_eq_true rfl, Nat.le_of_ble_eq_true rfl⟩) (Cut.nil _) hP hD hS hA (fun H locs hP hD hS => ?_)
  refine lv_istore_n (lv' := [(3, .int q7), (0, .ref (A 0)), (1, .int x1), (2, .int x2)]) hx hb dX5_shut_10 rfl hl (by decide) rfl (fun ls hl => ?_)
  refine lv_aload_n hx hb dX5_shut_11 rfl (lv_at hl 1 rfl) ?_
  refine ld_f S iX5 hK hP 0 1 (.ref (A 11)) (gX5_0 _ _ _ _ _ _ _ _ _ _) rfl (by decide) k21 rfl rfl dX5_shut_12 ?_
  refine lv_iload_n hx hb dX5_shut_15 rfl (lv_at hl 0 rfl) ?_
  obtain ⟨q16, h16, hf⟩ := bd_t hf
  refine cl_i (va_runV (As := [.int q7]) (rest := []) S (mX3_isShut l D cI cZ (aX5_X3_2_1 A) ct cw q7 H.size q16 h16) (cwV 1 hts gX5_shut_X3_isShut rfl rfl rfl (by decide +kernel) ⟨Nat.le_of_ble_eq_true rfl, Nat.le_of_ble_eq_true rfl⟩) (mP_V (ci := 3) (cutX5_X3_2_1 _ _ _ _ _ _ _ _ _ _ st0 st0) hP hD hK hG rfl (gX3_0 _ _ _ _ _)) rfl rfl hl.1 rfl (lv_room (Nat.le_of_ble_eq_true rfl)) dX5_shut_16 ⟨Nat.le_of_ble_eq_true rfl, Nat.le_of_ble_eq_true rfl⟩) (cutX5_X3_2_1 _ _ _ _ _ _ _ _ _ _ _ _) hP hD hS hA (fun H locs hP hD hS => ?_)
  refine lv_if_eq (tgt := 32) hx hb dX5_shut_19 (by decide) (fun c19 => ?_) (fun c19 => ?_)
  · have hf := if_t c19 hf
    refine lv_aload_n hx hb dX5_shut_32 rfl (lv_at hl 1 rfl) ?_
    refine lv_iload_n hx hb dX5_shut_33 rfl (lv_at hl 0 rfl) ?_
    refine lv_iconst (v := (-1)) hx hb dX5_shut_34 (by decide) ?_
    obtain ⟨q35, h35, hf⟩ := bd_t hf
    refine cl_v (va_runV (As := [.int q7, .int (-1)]) (rest := []) S (mX5_shutUntil l D cI cZ A cs cw ct cu cl cb cp q7 (-1) H.size q35 h35) (cwV 2 hts gX5_shut_X5_shutUntil rfl rfl rfl (by decide +kernel) ⟨Nat.le_of_ble_eq_true rfl, Nat.le_of_ble_eq_true rfl⟩) (mP_V (ci := 5) (Cut.self _ []) hP hD hK hG rfl (gX5_0 _ _ _ _ _ _ _ _ _ _)) rfl rfl hl.1 rfl (lv_room (Nat.le_of_ble_eq_true rfl)) dX5_shut_35 ⟨Nat.le_of_ble_eq_true rfl, Nat.le_of_ble_eq_true rfl⟩) (Cut.self _ _) hP hD hS hA (fun H locs hP hD hS => ?_)
    refine lv_iconst (v := 1) hx hb dX5_shut_38 (by decide) ?_
    cases hf
  · have hf := if_f c19 hf
    refine lv_aload_n hx hb dX5_shut_22 rfl (lv_at hl 1 rfl) ?_
    refine ld_f S iX5 hK hP 0 1 (.ref (A 11)) (gX5_0 _ _ _ _ _ _ _ _ _ _) rfl (by decide) k21 rfl rfl dX5_shut_23 ?_
    refine lv_iload_n hx hb dX5_shut_26 rfl (lv_at hl 0 rfl) ?_
    obtain ⟨q27, h27, hf⟩ := bd_t hf
    refine cl_v (va_runV (As := [.int q7]) (rest := []) S (mX3_endShut l D cI cZ (aX5_X3_2_1 A) ct cw q7 H.size q27 h27) (cwV 1 hts gX5_shut_X3_endShut rfl rfl rfl (by decide +kernel) ⟨Nat.le_of_ble_eq_true rfl, Nat.le_of_ble_eq_true rfl⟩) (mP_V (ci := 3) (cutX5_X3_2_1 _ _ _ _ _ _ _ _ _ _ st0 st0) hP hD hK hG rfl (gX3_0 _ _ _ _ _)) rfl rfl hl.1 rfl (lv_room (Nat.le_of_ble_eq_true rfl)) dX5_shut_27 ⟨Nat.le_of_ble_eq_true rfl, Nat.le_of_ble_eq_true rfl⟩) (cutX5_X3_2_1 _ _ _ _ _ _ _ _ _ _ _ _) hP hD hS hA (fun H locs hP hD hS => ?_)
    refine lv_iconst (v := 0) hx hb dX5_shut_30 (by decide) ?_
    cases hf
set_option maxHeartbeats 4000000 in
set_option maxRecDepth 100000 in
theorem xX5_guard (l : Launch) (hfl : l.stackTraces = false) (D : va_G) (cI cZ : ClassId) (A : Nat → Nat)  (cs : St) (cw : St) (ct : St) (cu : St) (cl : St) (cb : St) (cp : St) (x1 : Int32) (x2 : Int32) (x3 : Int32) (sz : Nat) (res : Nat) (hf : fX5_guard cw x1 x2 x3 = some (.inr res)) : vx_Met l yX5_guard wsX5_guard ({ frames := 8, cells := 1, slots := 6, locals := 137 }) (xP D (tysX cI cZ) [.ref (A 0), .int x1, .int x2, .int x3] (wX5 cI cZ A cs cw ct cu cl cb cp) sz) (xQi (va_A (wX5 cI cZ A cs cw ct cu cl cb cp) sz)) (xC D (wX5 cI cZ A cs cw ct cu cl cb cp) res sz) 1 6 (va_A (wX5 cI cZ A cs cw ct cu cl cb cp) sz) := by
  refine mkX (cc := cX5_guard) (maxL := 6) hfl (by decide +kernel) rfl rfl (Nat.le_of_ble_eq_true rfl) (by decide) ?_
  intro p e s m args below meth c A0 Q S hK hG hX hZ hA hT hTW hO
  obtain ⟨hx, hb, hml, hown, hts⟩ := id S
  have k12 := hts (.fieldLink RX5 12 "SwitchFloor" "wiring" "LSwitchFloor$Wiring;") (by decide +kernel)
  have iX5 : ∀ w ∈ wsX50, w ∈ wsX5_guard := by decide +kernel
  have k145 := hts (.fieldLink RX5 145 "SwitchFloor$Wiring" "guard" "[I") (by decide +kernel)
  have iX4 : ∀ w ∈ wsX40, w ∈ wsX5_guard := by decide +kernel
  intro H locs hP hD hS ls hl
  have hl : lv_has ls 6 [(0, .ref (A 0)), (1, .int x1), (2, .int x2), (3, .int x3)] := hl
  unfold fX5_guard at hf
  refine lv_iload_n hx hb dX5_guard_0 rfl (lv_at hl 1 rfl) ?_
  refine lv_iload_n hx hb dX5_guard_1 rfl (lv_at hl 2 rfl) ?_
  rcases bx_r hf with h2x | ⟨q2, h2, hf⟩
  · exact clx_v (k := res) (vx_runS (As := [.int x1, .int x2]) (rest := []) S (xX5_needPort l hfl D cI cZ x1 x2 H.size res h2x) (va_cwS 2 hts gX5_guard_X5_needPort rfl rfl rfl (by decide +kernel) ⟨Nat.le_of_ble_eq_true rfl, Nat.le_of_ble_eq_true rfl⟩) (xP_S (Cut.nil _) hP hD hS hA hK hG hX hZ) rfl rfl hl.1 rfl (lv_room (Nat.le_of_ble_eq_true rfl)) dX5_guard_2 ⟨Nat.le_of_ble_eq_true rfl, Nat.le_of_ble_eq_true rfl⟩) (Cut.nil _) rfl hP hD hS hA (fun E ce q9 H locs hE hce hcv hcl hP hD hS => hO _ ls H locs _ E ce q9 hE hce hcv hcl hP hD hS)
  refine cl_v (va_runS (As := [.int x1, .int x2]) (rest := []) S (mX5_needPort l D cI cZ x1 x2 H.size q2 h2) (va_cwS 2 hts gX5_guard_X5_needPort rfl rfl rfl (by decide +kernel) ⟨Nat.le_of_ble_eq_true rfl, Nat.le_of_ble_eq_true rfl⟩) (mP_S (Cut.nil _) hP hD hK hG) rfl rfl hl.1 rfl (lv_room (Nat.le_of_ble_eq_true rfl)) dX5_guard_2 ⟨Nat.le_of_ble_eq_true rfl, Nat.le_of_ble_eq_true rfl⟩) (Cut.nil _) hP hD hS hA (fun H locs hP hD hS => ?_)
  refine lv_iload_n hx hb dX5_guard_5 rfl (lv_at hl 3 rfl) ?_
  refine lv_iconst (v := 0) hx hb dX5_guard_6 (by decide) ?_
  refine lv_iconst (v := 2) hx hb dX5_guard_7 (by decide) ?_
  rcases bx_r hf with h8x | ⟨q8, h8, hf⟩
  · exact clx_v (k := res) (vx_runS (As := [.int x3, .int 0, .int 2]) (rest := []) S (xX5_needWithin l hfl D cI cZ x3 0 2 H.size res h8x) (va_cwS 3 hts gX5_guard_X5_needWithin rfl rfl rfl (by decide +kernel) ⟨Nat.le_of_ble_eq_true rfl, Nat.le_of_ble_eq_true rfl⟩) (xP_S (Cut.nil _) hP hD hS hA hK hG hX hZ) rfl rfl hl.1 rfl (lv_room (Nat.le_of_ble_eq_true rfl)) dX5_guard_8 ⟨Nat.le_of_ble_eq_true rfl, Nat.le_of_ble_eq_true rfl⟩) (Cut.nil _) rfl hP hD hS hA (fun E ce q9 H locs hE hce hcv hcl hP hD hS => hO _ ls H locs _ E ce q9 hE hce hcv hcl hP hD hS)
  refine cl_v (va_runS (As := [.int x3, .int 0, .int 2]) (rest := []) S (mX5_needWithin l D cI cZ x3 0 2 H.size q8 h8) (va_cwS 3 hts gX5_guard_X5_needWithin rfl rfl rfl (by decide +kernel) ⟨Nat.le_of_ble_eq_true rfl, Nat.le_of_ble_eq_true rfl⟩) (mP_S (Cut.nil _) hP hD hK hG) rfl rfl hl.1 rfl (lv_room (Nat.le_of_ble_eq_true rfl)) dX5_guard_8 ⟨Nat.le_of_ble_eq_true rfl, Nat.le_of_ble_eq_true rfl⟩) (Cut.nil _) hP hD hS hA (fun H locs hP hD hS => ?_)
  refine lv_iload_n hx hb dX5_guard_11 rfl (lv_at hl 1 rfl) ?_
  refine lv_iload_n hx hb dX5_guard_12 rfl (lv_at hl 2 rfl) ?_
  obtain ⟨q13, h13, hf⟩ := bd_t hf
  refine cl_i (va_runS (As := [.int x1, .int x2]) (rest := []) S (mX5_spotOf l D cI cZ x1 x2 H.size q13 h13) (va_cwS 2 hts gX5_guard_X5_spotOf rfl rfl rfl (by decide +kernel) ⟨Nat.le_of_ble_eq_true rfl, Nat.le_of_ble_eq_true rfl⟩) (mP_S (Cut.nil _) hP hD hK hG) rfl rfl hl.1 rfl (lv_room (Nat.le_of_ble_eq_true rfl)) dX5_guard_13 ⟨Nat.le_of_ble_eq_true rfl, Nat.le_of_ble_eq_true rfl⟩) (Cut.nil _) hP hD hS hA (fun H locs hP hD hS => ?_)
  refine lv_istore (lv' := [(4, .int q13), (0, .ref (A 0)), (1, .int x1), (2, .int x2), (3, .int x3)]) hx hb dX5_guard_16 hl (by decide) rfl (fun ls hl => ?_)
  refine lv_aload_n hx hb dX5_guard_18 rfl (lv_at hl 1 rfl) ?_
  refine ld_f S iX5 hK hP 0 0 (.ref (A 4)) (gX5_0 _ _ _ _ _ _ _ _ _ _) rfl (by decide) k12 rfl rfl dX5_guard_19 ?_
  refine ld_f S iX4 hK hP 4 3 (.ref (A 8)) (gX5_4 _ _ _ _ _ _ _ _ _ _) rfl (by decide) k145 rfl rfl dX5_guard_22 ?_
  refine lv_iload hx hb dX5_guard_25 (lv_at hl 0 rfl) ?_
  obtain ⟨c27, hf⟩ := ck_t hf
  refine va_iald (f := cw 3) hx hb hK hP 8 0 (gX5_8 _ _ _ _ _ _ _ _ _ _) rfl (inb_in c27) dX5_guard_27 ?_
  refine lv_istore (lv' := [(5, .int (cw 3 q13.toNatClampNeg)), (4, .int q13), (0, .ref (A 0)), (1, .int x1), (2, .int x2), (3, .int x3)]) hx hb dX5_guard_28 hl (by decide) rfl (fun ls hl => ?_)
  refine lv_aload_n hx hb dX5_guard_30 rfl (lv_at hl 2 rfl) ?_
  refine ld_f S iX5 hK hP 0 0 (.ref (A 4)) (gX5_0 _ _ _ _ _ _ _ _ _ _) rfl (by decide) k12 rfl rfl dX5_guard_31 ?_
  refine ld_f S iX4 hK hP 4 3 (.ref (A 8)) (gX5_4 _ _ _ _ _ _ _ _ _ _) rfl (by decide) k145 rfl rfl dX5_guard_34 ?_
  refine lv_iload hx hb dX5_guard_37 (lv_at hl 1 rfl) ?_
  refine lv_iload_n hx hb dX5_guard_39 rfl (lv_at hl 5 rfl) ?_
  obtain ⟨c40, hf⟩ := ck_t hf
  refine st_i hx hb hK hP hD hS 8 0 (sX5_8 _ _ _ _ _ _ _ _ _ _ _ _) (gX5_8 _ _ _ _ _ _ _ _ _ _) rfl c40 dX5_guard_40 (fun H locs hP hD hS => ?_)
  refine lv_iload hx hb dX5_guard_41 (lv_at hl 0 rfl) ?_
  cases hf
set_option maxHeartbeats 4000000 in
set_option maxRecDepth 100000 in
theorem xX5_needLane (l : Launch) (hfl : l.stackTraces = false) (D : va_G) (cI cZ : ClassId)  (x0 : Int32) (sz : Nat) (res : Nat) (hf : fX5_needLane x0 = some (.inr res)) : vx_Met l yX5_needLane wsX5_needLane ({ frames := 6, cells := 1, slots := 6, locals := 96 }) (xP D (tysX cI cZ) [.int x0] [] sz) (xQv (va_A [] sz)) (xC D [] res sz) 1 6 (va_A [] sz) := by
  refine mkX (cc := cX5_needLane) (maxL := 1) hfl (by decide +kernel) rfl rfl (Nat.le_of_ble_eq_true rfl) (by decide) ?_
  intro p e s m args below meth c A0 Q S hK hG hX hZ hA hT hTW hO
  obtain ⟨hx, hb, hml, hown, hts⟩ := id S
  have xw1 : ∀ w ∈ (vx_atS RX5 (xIc 1) (xn 1) xNames).filter goodWord, w ∈ wsX5_needLane := by decide +kernel
  have xc1 := hts (.classLink RX5 251 "java/lang/IndexOutOfBoundsException") (by decide +kernel)
  have xi1 := hts (.initialized "java/lang/IndexOutOfBoundsException") (by decide +kernel)
  intro H locs hP hD hS ls hl
  have hl : lv_has ls 1 [(0, .int x0)] := hl
  unfold fX5_needLane at hf
  refine lv_iload_n hx hb dX5_needLane_0 rfl (lv_at hl 0 rfl) ?_
  refine lv_iconst (v := 1) hx hb dX5_needLane_1 (by decide) ?_
  refine lv_icmp_lt (tgt := 10) hx hb dX5_needLane_2 (by decide) (fun c2 => ?_) (fun c2 => ?_)
  · have hf := if_t c2 hf
    cases hf
    exact hTW _ ls H locs _ 251 260 "no such lane" (by decide) (by decide +kernel) xc1 xi1 (fun w h => hts w (xw1 w h)) dX5_needLane_10 dX5_needLane_13 dX5_needLane_14 dX5_needLane_17 dX5_needLane_20 hl.1 (Nat.le_of_ble_eq_true rfl) hP hD hS
  · have hf := if_f c2 hf
    refine lv_iload_n hx hb dX5_needLane_5 rfl (lv_at hl 0 rfl) ?_
    refine lv_iconst (v := 3) hx hb dX5_needLane_6 (by decide) ?_
    refine lv_icmp_le (tgt := 21) hx hb dX5_needLane_7 (by decide) (fun c7 => ?_) (fun c7 => ?_)
    · have hf := if_t c7 hf
      cases hf
    · have hf := if_f c7 hf
      cases hf
      exact hTW _ ls H locs _ 251 260 "no such lane" (by decide) (by decide +kernel) xc1 xi1 (fun w h => hts w (xw1 w h)) dX5_needLane_10 dX5_needLane_13 dX5_needLane_14 dX5_needLane_17 dX5_needLane_20 hl.1 (Nat.le_of_ble_eq_true rfl) hP hD hS
set_option maxHeartbeats 4000000 in
set_option maxRecDepth 100000 in
theorem xX5_plain (l : Launch) (hfl : l.stackTraces = false) (D : va_G) (cI cZ : ClassId) (A : Nat → Nat)  (cs : St) (cw : St) (ct : St) (cu : St) (cl : St) (cb : St) (cp : St) (x1 : Int32) (x2 : Int32) (x3 : Int32) (sz : Nat) (res : Nat) (hf : fX5_plain cl x1 x2 x3 = some (.inr res)) : vx_Met l yX5_plain wsX5_plain ({ frames := 8, cells := 1, slots := 6, locals := 137 }) (xP D (tysX cI cZ) [.ref (A 0), .int x1, .int x2, .int x3] (wX5 cI cZ A cs cw ct cu cl cb cp) sz) (xQv (va_A (wX5 cI cZ A cs cw ct cu cl cb cp) sz)) (xC D (wX5 cI cZ A cs cw ct cu cl cb cp) res sz) 1 6 (va_A (wX5 cI cZ A cs cw ct cu cl cb cp) sz) := by
  refine mkX (cc := cX5_plain) (maxL := 4) hfl (by decide +kernel) rfl rfl (Nat.le_of_ble_eq_true rfl) (by decide) ?_
  intro p e s m args below meth c A0 Q S hK hG hX hZ hA hT hTW hO
  obtain ⟨hx, hb, hml, hown, hts⟩ := id S
  have k31 := hts (.fieldLink RX5 31 "SwitchFloor" "lanes" "LSwitchFloor$Lanes;") (by decide +kernel)
  have iX5 : ∀ w ∈ wsX50, w ∈ wsX5_plain := by decide +kernel
  intro H locs hP hD hS ls hl
  have hl : lv_has ls 4 [(0, .ref (A 0)), (1, .int x1), (2, .int x2), (3, .int x3)] := hl
  unfold fX5_plain at hf
  refine lv_iload_n hx hb dX5_plain_0 rfl (lv_at hl 1 rfl) ?_
  refine lv_iload_n hx hb dX5_plain_1 rfl (lv_at hl 2 rfl) ?_
  rcases bx_r hf with h2x | ⟨q2, h2, hf⟩
  · exact clx_v (k := res) (vx_runS (As := [.int x1, .int x2]) (rest := []) S (xX5_needPort l hfl D cI cZ x1 x2 H.size res h2x) (va_cwS 2 hts gX5_plain_X5_needPort rfl rfl rfl (by decide +kernel) ⟨Nat.le_of_ble_eq_true rfl, Nat.le_of_ble_eq_true rfl⟩) (xP_S (Cut.nil _) hP hD hS hA hK hG hX hZ) rfl rfl hl.1 rfl (lv_room (Nat.le_of_ble_eq_true rfl)) dX5_plain_2 ⟨Nat.le_of_ble_eq_true rfl, Nat.le_of_ble_eq_true rfl⟩) (Cut.nil _) rfl hP hD hS hA (fun E ce q9 H locs hE hce hcv hcl hP hD hS => hO _ ls H locs _ E ce q9 hE hce hcv hcl hP hD hS)
  refine cl_v (va_runS (As := [.int x1, .int x2]) (rest := []) S (mX5_needPort l D cI cZ x1 x2 H.size q2 h2) (va_cwS 2 hts gX5_plain_X5_needPort rfl rfl rfl (by decide +kernel) ⟨Nat.le_of_ble_eq_true rfl, Nat.le_of_ble_eq_true rfl⟩) (mP_S (Cut.nil _) hP hD hK hG) rfl rfl hl.1 rfl (lv_room (Nat.le_of_ble_eq_true rfl)) dX5_plain_2 ⟨Nat.le_of_ble_eq_true rfl, Nat.le_of_ble_eq_true rfl⟩) (Cut.nil _) hP hD hS hA (fun H locs hP hD hS => ?_)
  refine lv_iload_n hx hb dX5_plain_5 rfl (lv_at hl 3 rfl) ?_
  rcases bx_r hf with h6x | ⟨q6, h6, hf⟩
  · exact clx_v (k := res) (vx_runS (As := [.int x3]) (rest := []) S (xX5_needLane l hfl D cI cZ x3 H.size res h6x) (va_cwS 1 hts gX5_plain_X5_needLane rfl rfl rfl (by decide +kernel) ⟨Nat.le_of_ble_eq_true rfl, Nat.le_of_ble_eq_true rfl⟩) (xP_S (Cut.nil _) hP hD hS hA hK hG hX hZ) rfl rfl hl.1 rfl (lv_room (Nat.le_of_ble_eq_true rfl)) dX5_plain_6 ⟨Nat.le_of_ble_eq_true rfl, Nat.le_of_ble_eq_true rfl⟩) (Cut.nil _) rfl hP hD hS hA (fun E ce q9 H locs hE hce hcv hcl hP hD hS => hO _ ls H locs _ E ce q9 hE hce hcv hcl hP hD hS)
  refine cl_v (va_runS (As := [.int x3]) (rest := []) S (mX5_needLane l D cI cZ x3 H.size q6 h6) (va_cwS 1 hts gX5_plain_X5_needLane rfl rfl rfl (by decide +kernel) ⟨Nat.le_of_ble_eq_true rfl, Nat.le_of_ble_eq_true rfl⟩) (mP_S (Cut.nil _) hP hD hK hG) rfl rfl hl.1 rfl (lv_room (Nat.le_of_ble_eq_true rfl)) dX5_plain_6 ⟨Nat.le_of_ble_eq_true rfl, Nat.le_of_ble_eq_true rfl⟩) (Cut.nil _) hP hD hS hA (fun H locs hP hD hS => ?_)
  refine lv_aload_n hx hb dX5_plain_9 rfl (lv_at hl 0 rfl) ?_
  refine ld_f S iX5 hK hP 0 3 (.ref (A 41)) (gX5_0 _ _ _ _ _ _ _ _ _ _) rfl (by decide) k31 rfl rfl dX5_plain_10 ?_
  refine lv_iload_n hx hb dX5_plain_13 rfl (lv_at hl 1 rfl) ?_
  refine lv_iload_n hx hb dX5_plain_14 rfl (lv_at hl 2 rfl) ?_
  obtain ⟨q15, h15, hf⟩ := bd_t hf
  refine cl_i (va_runS (As := [.int x1, .int x2]) (rest := [.ref (A 41)]) S (mX5_spotOf l D cI cZ x1 x2 H.size q15 h15) (va_cwS 2 hts gX5_plain_X5_spotOf rfl rfl rfl (by decide +kernel) ⟨Nat.le_of_ble_eq_true rfl, Nat.le_of_ble_eq_true rfl⟩) (mP_S (Cut.nil _) hP hD hK hG) rfl rfl hl.1 rfl (lv_room (Nat.le_of_ble_eq_true rfl)) dX5_plain_15 ⟨Nat.le_of_ble_eq_true rfl, Nat.le_of_ble_eq_true rfl⟩) (Cut.nil _) hP hD hS hA (fun H locs hP hD hS => ?_)
  refine lv_iload_n hx hb dX5_plain_18 rfl (lv_at hl 3 rfl) ?_
  obtain ⟨q19, h19, hf⟩ := bd_t hf
  refine cl_i (va_runS (As := [.int x3]) (rest := [.int q15, .ref (A 41)]) S (mX0_bitOf l D cI cZ x3 H.size q19 h19) (va_cwS 1 hts gX5_plain_X0_bitOf rfl rfl rfl (by decide +kernel) ⟨Nat.le_of_ble_eq_true rfl, Nat.le_of_ble_eq_true rfl⟩) (mP_S (Cut.nil _) hP hD hK hG) rfl rfl hl.1 rfl (lv_room (Nat.le_of_ble_eq_true rfl)) dX5_plain_19 ⟨Nat.le_of_ble_eq_true rfl, Nat.le_of_ble_eq_true rfl⟩) (Cut.nil _) hP hD hS hA (fun H locs hP hD hS => ?_)
  refine lv_iload_n hx hb dX5_plain_22 rfl (lv_at hl 3 rfl) ?_
  obtain ⟨q23, h23, hf⟩ := bd_t hf
  refine cl_v (va_runV (As := [.int q15, .int q19, .int x3]) (rest := []) S (mX0_setUp l D cI cZ (aX5_X0_4 A) cl q15 q19 x3 H.size q23 h23) (cwV 3 hts gX5_plain_X0_setUp rfl rfl rfl (by decide +kernel) ⟨Nat.le_of_ble_eq_true rfl, Nat.le_of_ble_eq_true rfl⟩) (mP_V (ci := 0) (cutX5_X0_4 _ _ _ _ _ _ _ _ _ _ st0) hP hD hK hG rfl (gX0_0 _ _ _ _)) rfl rfl hl.1 rfl (lv_room (Nat.le_of_ble_eq_true rfl)) dX5_plain_23 ⟨Nat.le_of_ble_eq_true rfl, Nat.le_of_ble_eq_true rfl⟩) (cutX5_X0_4 _ _ _ _ _ _ _ _ _ _ _) hP hD hS hA (fun H locs hP hD hS => ?_)
  cases hf
set_option maxHeartbeats 4000000 in
set_option maxRecDepth 100000 in
theorem xX5_trunk (l : Launch) (hfl : l.stackTraces = false) (D : va_G) (cI cZ : ClassId) (A : Nat → Nat)  (cs : St) (cw : St) (ct : St) (cu : St) (cl : St) (cb : St) (cp : St) (x1 : Int32) (x2 : Int32) (x3 : Int32) (x4 : Int32) (sz : Nat) (res : Nat) (hf : fX5_trunk cl x1 x2 x3 x4 = some (.inr res)) : vx_Met l yX5_trunk wsX5_trunk ({ frames := 8, cells := 1, slots := 6, locals := 137 }) (xP D (tysX cI cZ) [.ref (A 0), .int x1, .int x2, .int x3, .int x4] (wX5 cI cZ A cs cw ct cu cl cb cp) sz) (xQv (va_A (wX5 cI cZ A cs cw ct cu cl cb cp) sz)) (xC D (wX5 cI cZ A cs cw ct cu cl cb cp) res sz) 1 6 (va_A (wX5 cI cZ A cs cw ct cu cl cb cp) sz) := by
  refine mkX (cc := cX5_trunk) (maxL := 5) hfl (by decide +kernel) rfl rfl (Nat.le_of_ble_eq_true rfl) (by decide) ?_
  intro p e s m args below meth c A0 Q S hK hG hX hZ hA hT hTW hO
  obtain ⟨hx, hb, hml, hown, hts⟩ := id S
  have k31 := hts (.fieldLink RX5 31 "SwitchFloor" "lanes" "LSwitchFloor$Lanes;") (by decide +kernel)
  have iX5 : ∀ w ∈ wsX50, w ∈ wsX5_trunk := by decide +kernel
  intro H locs hP hD hS ls hl
  have hl : lv_has ls 5 [(0, .ref (A 0)), (1, .int x1), (2, .int x2), (3, .int x3), (4, .int x4)] := hl
  unfold fX5_trunk at hf
  refine lv_iload_n hx hb dX5_trunk_0 rfl (lv_at hl 1 rfl) ?_
  refine lv_iload_n hx hb dX5_trunk_1 rfl (lv_at hl 2 rfl) ?_
  rcases bx_r hf with h2x | ⟨q2, h2, hf⟩
  · exact clx_v (k := res) (vx_runS (As := [.int x1, .int x2]) (rest := []) S (xX5_needPort l hfl D cI cZ x1 x2 H.size res h2x) (va_cwS 2 hts gX5_trunk_X5_needPort rfl rfl rfl (by decide +kernel) ⟨Nat.le_of_ble_eq_true rfl, Nat.le_of_ble_eq_true rfl⟩) (xP_S (Cut.nil _) hP hD hS hA hK hG hX hZ) rfl rfl hl.1 rfl (lv_room (Nat.le_of_ble_eq_true rfl)) dX5_trunk_2 ⟨Nat.le_of_ble_eq_true rfl, Nat.le_of_ble_eq_true rfl⟩) (Cut.nil _) rfl hP hD hS hA (fun E ce q9 H locs hE hce hcv hcl hP hD hS => hO _ ls H locs _ E ce q9 hE hce hcv hcl hP hD hS)
  refine cl_v (va_runS (As := [.int x1, .int x2]) (rest := []) S (mX5_needPort l D cI cZ x1 x2 H.size q2 h2) (va_cwS 2 hts gX5_trunk_X5_needPort rfl rfl rfl (by decide +kernel) ⟨Nat.le_of_ble_eq_true rfl, Nat.le_of_ble_eq_true rfl⟩) (mP_S (Cut.nil _) hP hD hK hG) rfl rfl hl.1 rfl (lv_room (Nat.le_of_ble_eq_true rfl)) dX5_trunk_2 ⟨Nat.le_of_ble_eq_true rfl, Nat.le_of_ble_eq_true rfl⟩) (Cut.nil _) hP hD hS hA (fun H locs hP hD hS => ?_)
  refine lv_iload hx hb dX5_trunk_5 (lv_at hl 4 rfl) ?_
  rcases bx_r hf with h7x | ⟨q7, h7, hf⟩
  · exact clx_v (k := res) (vx_runS (As := [.int x4]) (rest := []) S (xX5_needLane l hfl D cI cZ x4 H.size res h7x) (va_cwS 1 hts gX5_trunk_X5_needLane rfl rfl rfl (by decide +kernel) ⟨Nat.le_of_ble_eq_true rfl, Nat.le_of_ble_eq_true rfl⟩) (xP_S (Cut.nil _) hP hD hS hA hK hG hX hZ) rfl rfl hl.1 rfl (lv_room (Nat.le_of_ble_eq_true rfl)) dX5_trunk_7 ⟨Nat.le_of_ble_eq_true rfl, Nat.le_of_ble_eq_true rfl⟩) (Cut.nil _) rfl hP hD hS hA (fun E ce q9 H locs hE hce hcv hcl hP hD hS => hO _ ls H locs _ E ce q9 hE hce hcv hcl hP hD hS)
  refine cl_v (va_runS (As := [.int x4]) (rest := []) S (mX5_needLane l D cI cZ x4 H.size q7 h7) (va_cwS 1 hts gX5_trunk_X5_needLane rfl rfl rfl (by decide +kernel) ⟨Nat.le_of_ble_eq_true rfl, Nat.le_of_ble_eq_true rfl⟩) (mP_S (Cut.nil _) hP hD hK hG) rfl rfl hl.1 rfl (lv_room (Nat.le_of_ble_eq_true rfl)) dX5_trunk_7 ⟨Nat.le_of_ble_eq_true rfl, Nat.le_of_ble_eq_true rfl⟩) (Cut.nil _) hP hD hS hA (fun H locs hP hD hS => ?_)
  refine lv_iload_n hx hb dX5_trunk_10 rfl (lv_at hl 3 rfl) ?_
  refine lv_iconst (v := 1) hx hb dX5_trunk_11 (by decide) ?_
  refine lv_bipush (v := 7) hx hb dX5_trunk_12 (by decide) ?_
  rcases bx_r hf with h14x | ⟨q14, h14, hf⟩
  · exact clx_v (k := res) (vx_runS (As := [.int x3, .int 1, .int 7]) (rest := []) S (xX5_needWithin l hfl D cI cZ x3 1 7 H.size res h14x) (va_cwS 3 hts gX5_trunk_X5_needWithin rfl rfl rfl (by decide +kernel) ⟨Nat.le_of_ble_eq_true rfl, Nat.le_of_ble_eq_true rfl⟩) (xP_S (Cut.nil _) hP hD hS hA hK hG hX hZ) rfl rfl hl.1 rfl (lv_room (Nat.le_of_ble_eq_true rfl)) dX5_trunk_14 ⟨Nat.le_of_ble_eq_true rfl, Nat.le_of_ble_eq_true rfl⟩) (Cut.nil _) rfl hP hD hS hA (fun E ce q9 H locs hE hce hcv hcl hP hD hS => hO _ ls H locs _ E ce q9 hE hce hcv hcl hP hD hS)
  refine cl_v (va_runS (As := [.int x3, .int 1, .int 7]) (rest := []) S (mX5_needWithin l D cI cZ x3 1 7 H.size q14 h14) (va_cwS 3 hts gX5_trunk_X5_needWithin rfl rfl rfl (by decide +kernel) ⟨Nat.le_of_ble_eq_true rfl, Nat.le_of_ble_eq_true rfl⟩) (mP_S (Cut.nil _) hP hD hK hG) rfl rfl hl.1 rfl (lv_room (Nat.le_of_ble_eq_true rfl)) dX5_trunk_14 ⟨Nat.le_of_ble_eq_true rfl, Nat.le_of_ble_eq_true rfl⟩) (Cut.nil _) hP hD hS hA (fun H locs hP hD hS => ?_)
  refine lv_aload_n hx hb dX5_trunk_17 rfl (lv_at hl 0 rfl) ?_
  refine ld_f S iX5 hK hP 0 3 (.ref (A 41)) (gX5_0 _ _ _ _ _ _ _ _ _ _) rfl (by decide) k31 rfl rfl dX5_trunk_18 ?_
  refine lv_iload_n hx hb dX5_trunk_21 rfl (lv_at hl 1 rfl) ?_
  refine lv_iload_n hx hb dX5_trunk_22 rfl (lv_at hl 2 rfl) ?_
  obtain ⟨q23, h23, hf⟩ := bd_t hf
  refine cl_i (va_runS (As := [.int x1, .int x2]) (rest := [.ref (A 41)]) S (mX5_spotOf l D cI cZ x1 x2 H.size q23 h23) (va_cwS 2 hts gX5_trunk_X5_spotOf rfl rfl rfl (by decide +kernel) ⟨Nat.le_of_ble_eq_true rfl, Nat.le_of_ble_eq_true rfl⟩) (mP_S (Cut.nil _) hP hD hK hG) rfl rfl hl.1 rfl (lv_room (Nat.le_of_ble_eq_true rfl)) dX5_trunk_23 ⟨Nat.le_of_ble_eq_true rfl, Nat.le_of_ble_eq_true rfl⟩) (Cut.nil _) hP hD hS hA (fun H locs hP hD hS => ?_)
  refine lv_iload_n hx hb dX5_trunk_26 rfl (lv_at hl 3 rfl) ?_
  refine lv_iload hx hb dX5_trunk_27 (lv_at hl 4 rfl) ?_
  obtain ⟨q29, h29, hf⟩ := bd_t hf
  refine cl_v (va_runV (As := [.int q23, .int x3, .int x4]) (rest := []) S (mX0_setUp l D cI cZ (aX5_X0_4 A) cl q23 x3 x4 H.size q29 h29) (cwV 3 hts gX5_trunk_X0_setUp rfl rfl rfl (by decide +kernel) ⟨Nat.le_of_ble_eq_true rfl, Nat.le_of_ble_eq_true rfl⟩) (mP_V (ci := 0) (cutX5_X0_4 _ _ _ _ _ _ _ _ _ _ st0) hP hD hK hG rfl (gX0_0 _ _ _ _)) rfl rfl hl.1 rfl (lv_room (Nat.le_of_ble_eq_true rfl)) dX5_trunk_29 ⟨Nat.le_of_ble_eq_true rfl, Nat.le_of_ble_eq_true rfl⟩) (cutX5_X0_4 _ _ _ _ _ _ _ _ _ _ _) hP hD hS hA (fun H locs hP hD hS => ?_)
  cases hf
set_option maxHeartbeats 4000000 in
set_option maxRecDepth 100000 in
theorem xX5_limit (l : Launch) (hfl : l.stackTraces = false) (D : va_G) (cI cZ : ClassId) (A : Nat → Nat)  (cs : St) (cw : St) (ct : St) (cu : St) (cl : St) (cb : St) (cp : St) (x1 : Int32) (sz : Nat) (res : Nat) (hf : fX5_limit cs x1 = some (.inr res)) : vx_Met l yX5_limit wsX5_limit ({ frames := 7, cells := 1, slots := 6, locals := 118 }) (xP D (tysX cI cZ) [.ref (A 0), .int x1] (wX5 cI cZ A cs cw ct cu cl cb cp) sz) (xQi (va_A (wX5 cI cZ A cs cw ct cu cl cb cp) sz)) (xC D (wX5 cI cZ A cs cw ct cu cl cb cp) res sz) 1 6 (va_A (wX5 cI cZ A cs cw ct cu cl cb cp) sz) := by
  refine mkX (cc := cX5_limit) (maxL := 3) hfl (by decide +kernel) rfl rfl (Nat.le_of_ble_eq_true rfl) (by decide) ?_
  intro p e s m args below meth c A0 Q S hK hG hX hZ hA hT hTW hO
  obtain ⟨hx, hb, hml, hown, hts⟩ := id S
  have k59 := hts (.fieldLink RX5 59 "SwitchFloor" "floodLimit" "I") (by decide +kernel)
  have iX5 : ∀ w ∈ wsX50, w ∈ wsX5_limit := by decide +kernel
  intro H locs hP hD hS ls hl
  have hl : lv_has ls 3 [(0, .ref (A 0)), (1, .int x1)] := hl
  unfold fX5_limit at hf
  refine lv_iload_n hx hb dX5_limit_0 rfl (lv_at hl 1 rfl) ?_
  refine lv_iconst (v := 1) hx hb dX5_limit_1 (by decide) ?_
  refine lv_bipush (v := 100) hx hb dX5_limit_2 (by decide) ?_
  rcases bx_r hf with h4x | ⟨q4, h4, hf⟩
  · exact clx_v (k := res) (vx_runS (As := [.int x1, .int 1, .int 100]) (rest := []) S (xX5_needWithin l hfl D cI cZ x1 1 100 H.size res h4x) (va_cwS 3 hts gX5_limit_X5_needWithin rfl rfl rfl (by decide +kernel) ⟨Nat.le_of_ble_eq_true rfl, Nat.le_of_ble_eq_true rfl⟩) (xP_S (Cut.nil _) hP hD hS hA hK hG hX hZ) rfl rfl hl.1 rfl (lv_room (Nat.le_of_ble_eq_true rfl)) dX5_limit_4 ⟨Nat.le_of_ble_eq_true rfl, Nat.le_of_ble_eq_true rfl⟩) (Cut.nil _) rfl hP hD hS hA (fun E ce q9 H locs hE hce hcv hcl hP hD hS => hO _ ls H locs _ E ce q9 hE hce hcv hcl hP hD hS)
  refine cl_v (va_runS (As := [.int x1, .int 1, .int 100]) (rest := []) S (mX5_needWithin l D cI cZ x1 1 100 H.size q4 h4) (va_cwS 3 hts gX5_limit_X5_needWithin rfl rfl rfl (by decide +kernel) ⟨Nat.le_of_ble_eq_true rfl, Nat.le_of_ble_eq_true rfl⟩) (mP_S (Cut.nil _) hP hD hK hG) rfl rfl hl.1 rfl (lv_room (Nat.le_of_ble_eq_true rfl)) dX5_limit_4 ⟨Nat.le_of_ble_eq_true rfl, Nat.le_of_ble_eq_true rfl⟩) (Cut.nil _) hP hD hS hA (fun H locs hP hD hS => ?_)
  refine lv_aload_n hx hb dX5_limit_7 rfl (lv_at hl 0 rfl) ?_
  refine ld_f S iX5 hK hP 0 9 (.int (cs 9 0)) (gX5_0 _ _ _ _ _ _ _ _ _ _) rfl (by decide) k59 rfl rfl dX5_limit_8 ?_
  refine lv_istore_n (lv' := [(2, .int (cs 9 0)), (0, .ref (A 0)), (1, .int x1)]) hx hb dX5_limit_11 rfl hl (by decide) rfl (fun ls hl => ?_)
  refine lv_aload_n hx hb dX5_limit_12 rfl (lv_at hl 1 rfl) ?_
  refine lv_iload_n hx hb dX5_limit_13 rfl (lv_at hl 2 rfl) ?_
  refine st_f S iX5 tyX5 tyX5_ok nmX5 hK hP hD hS 0 9 (sX5_0_9 _ _ _ _ _ _ _ _ _ _ _) (gX5_0 _ _ _ _ _ _ _ _ _ _) rfl (by decide) k59 rfl rfl (by decide +kernel) rfl dX5_limit_14 (fun H locs hP hD hS => ?_)
  refine lv_iload_n hx hb dX5_limit_17 rfl (lv_at hl 0 rfl) ?_
  cases hf
set_option maxHeartbeats 4000000 in
set_option maxRecDepth 100000 in
theorem xX5_beat (l : Launch) (hfl : l.stackTraces = false) (D : va_G) (cI cZ : ClassId) (A : Nat → Nat)  (cs : St) (cw : St) (ct : St) (cu : St) (cl : St) (cb : St) (cp : St) (x1 : Int32) (sz : Nat) (res : Nat) (hf : fX5_beat cs cw ct cb x1 = some (.inr res)) : vx_Met l yX5_beat wsX5_beat ({ frames := 7, cells := 1, slots := 6, locals := 135 }) (xP D (tysX cI cZ) [.ref (A 0), .int x1] (wX5 cI cZ A cs cw ct cu cl cb cp) sz) (xQi (va_A (wX5 cI cZ A cs cw ct cu cl cb cp) sz)) (xC D (wX5 cI cZ A cs cw ct cu cl cb cp) res sz) 1 6 (va_A (wX5 cI cZ A cs cw ct cu cl cb cp) sz) := by
  refine mkX (cc := cX5_beat) (maxL := 3) hfl (by decide +kernel) rfl rfl (Nat.le_of_ble_eq_true rfl) (by decide) ?_
  intro p e s m args below meth c A0 Q S hK hG hX hZ hA hT hTW hO
  obtain ⟨hx, hb, hml, hown, hts⟩ := id S
  have k21 := hts (.fieldLink RX5 21 "SwitchFloor" "tree" "LSwitchFloor$Tree;") (by decide +kernel)
  have iX5 : ∀ w ∈ wsX50, w ∈ wsX5_beat := by decide +kernel
  have k160 := hts (.fieldLink RX5 160 "SwitchFloor$Tree" "beats" "I") (by decide +kernel)
  have iX3 : ∀ w ∈ wsX30, w ∈ wsX5_beat := by decide +kernel
  have B9 : ∀ (x1 : Int32) (cs : St) (ct : St) (cb : St) (x2 : Int32), fX5_beat_L9 cw x1 cs ct cb x2 = some (.inr res) → Bk p l e ({ frames := 7, cells := 1, slots := 6, locals := 135 }) s m args below meth c Q A0 D 3 0 0 (wX5 cI cZ A cs cw ct cu cl cb cp) [(0, .ref (A 0)), (1, .int x1), (2, .int x2)] 9 [] := by
    intro x1 cs ct cb x2 hf
    refine loop_ind (step := (fun k a => fX5_beat_S9 k cw x1 (a.1) (a.2.1) (a.2.2.1) (a.2.2.2))) (fun a => Bk p l e ({ frames := 7, cells := 1, slots := 6, locals := 135 }) s m args below meth c Q A0 D 3 0 0 (wX5 cI cZ A (a.1) cw (a.2.1) cu cl (a.2.2.1) cp) [(0, .ref (A 0)), (1, .int x1), (2, .int (a.2.2.2))] 9 []) ?_ _ _ hf
    clear hf
    intro k9 hk9 a hf
    obtain ⟨cs_, ct_, cb_, x2_⟩ := a
    clear cs ct cb x2
    obtain ⟨cs, e_⟩ : ∃ z, z = cs_ := ⟨_, rfl⟩
    subst e_
    obtain ⟨ct, e_⟩ : ∃ z, z = ct_ := ⟨_, rfl⟩
    subst e_
    obtain ⟨cb, e_⟩ : ∃ z, z = cb_ := ⟨_, rfl⟩
    subst e_
    obtain ⟨x2, e_⟩ : ∃ z, z = x2_ := ⟨_, rfl⟩
    subst e_
    have hf : fX5_beat_S9 k9 cw x1 cs ct cb x2 = some (.inr res) := hf
    show Bk p l e ({ frames := 7, cells := 1, slots := 6, locals := 135 }) s m args below meth c Q A0 D 3 0 0 (wX5 cI cZ A cs cw ct cu cl cb cp) [(0, .ref (A 0)), (1, .int x1), (2, .int x2)] 9 []
    unfold fX5_beat_S9 at hf
    intro H locs hP hD hS ls hl
    refine lv_iload_n hx hb dX5_beat_9 rfl (lv_at hl 2 rfl) ?_
    refine lv_iload_n hx hb dX5_beat_10 rfl (lv_at hl 1 rfl) ?_
    refine lv_icmp_ge (tgt := 24) hx hb dX5_beat_11 (by decide) (fun c11 => ?_) (fun c11 => ?_)
    · have hf := if_t c11 hf
      refine lv_aload_n hx hb dX5_beat_24 rfl (lv_at hl 0 rfl) ?_
      refine ld_f S iX5 hK hP 0 1 (.ref (A 11)) (gX5_0 _ _ _ _ _ _ _ _ _ _) rfl (by decide) k21 rfl rfl dX5_beat_25 ?_
      refine ld_f S iX3 hK hP 11 9 (.int (ct 9 0)) (gX5_11 _ _ _ _ _ _ _ _ _ _) rfl (by decide) k160 rfl rfl dX5_beat_28 ?_
      cases hf
    · have hf := if_f c11 hf
      refine lv_aload_n hx hb dX5_beat_14 rfl (lv_at hl 0 rfl) ?_
      obtain ⟨q15, h15, hf⟩ := bd_t hf
      refine cl_v (va_runV (As := []) (rest := []) S (mX5_passBeat l D cI cZ A cs cw ct cu cl cb cp H.size q15 h15) (cwV 0 hts gX5_beat_X5_passBeat rfl rfl rfl (by decide +kernel) ⟨Nat.le_of_ble_eq_true rfl, Nat.le_of_ble_eq_true rfl⟩) (mP_V (ci := 5) (Cut.self _ []) hP hD hK hG rfl (gX5_0 _ _ _ _ _ _ _ _ _ _)) rfl rfl hl.1 rfl (lv_room (Nat.le_of_ble_eq_true rfl)) dX5_beat_15 ⟨Nat.le_of_ble_eq_true rfl, Nat.le_of_ble_eq_true rfl⟩) (Cut.self _ _) hP hD hS hA (fun H locs hP hD hS => ?_)
      refine lv_iinc (v := x2 + 1) (lv' := [(2, .int (x2 + 1)), (0, .ref (A 0)), (1, .int x1)]) hx hb dX5_beat_18 hl (k := 2) rfl rfl (by decide) rfl (fun ls hl => ?_)
      refine lv_goto (tgt := 9) hx hb dX5_beat_21 (by decide) ?_
      exact hk9 _ hf H locs hP hD hS ls (lv_sub hl [1, 2, 0] rfl)
  intro H locs hP hD hS ls hl
  have hl : lv_has ls 3 [(0, .ref (A 0)), (1, .int x1)] := hl
  unfold fX5_beat at hf
  refine lv_iload_n hx hb dX5_beat_0 rfl (lv_at hl 1 rfl) ?_
  refine lv_iconst (v := 1) hx hb dX5_beat_1 (by decide) ?_
  refine lv_bipush (v := 30) hx hb dX5_beat_2 (by decide) ?_
  rcases bx_r hf with h4x | ⟨q4, h4, hf⟩
  · exact clx_v (k := res) (vx_runS (As := [.int x1, .int 1, .int 30]) (rest := []) S (xX5_needWithin l hfl D cI cZ x1 1 30 H.size res h4x) (va_cwS 3 hts gX5_beat_X5_needWithin rfl rfl rfl (by decide +kernel) ⟨Nat.le_of_ble_eq_true rfl, Nat.le_of_ble_eq_true rfl⟩) (xP_S (Cut.nil _) hP hD hS hA hK hG hX hZ) rfl rfl hl.1 rfl (lv_room (Nat.le_of_ble_eq_true rfl)) dX5_beat_4 ⟨Nat.le_of_ble_eq_true rfl, Nat.le_of_ble_eq_true rfl⟩) (Cut.nil _) rfl hP hD hS hA (fun E ce q9 H locs hE hce hcv hcl hP hD hS => hO _ ls H locs _ E ce q9 hE hce hcv hcl hP hD hS)
  refine cl_v (va_runS (As := [.int x1, .int 1, .int 30]) (rest := []) S (mX5_needWithin l D cI cZ x1 1 30 H.size q4 h4) (va_cwS 3 hts gX5_beat_X5_needWithin rfl rfl rfl (by decide +kernel) ⟨Nat.le_of_ble_eq_true rfl, Nat.le_of_ble_eq_true rfl⟩) (mP_S (Cut.nil _) hP hD hK hG) rfl rfl hl.1 rfl (lv_room (Nat.le_of_ble_eq_true rfl)) dX5_beat_4 ⟨Nat.le_of_ble_eq_true rfl, Nat.le_of_ble_eq_true rfl⟩) (Cut.nil _) hP hD hS hA (fun H locs hP hD hS => ?_)
  refine lv_iconst (v := 0) hx hb dX5_beat_7 (by decide) ?_
  refine lv_istore_n (lv' := [(2, .int 0), (0, .ref (A 0)), (1, .int x1)]) hx hb dX5_beat_8 rfl hl (by decide) rfl (fun ls hl => ?_)
  exact B9 _ _ _ _ _ hf H locs hP hD hS ls (lv_sub hl [1, 2, 0] rfl)
set_option maxHeartbeats 4000000 in
set_option maxRecDepth 100000 in
theorem xX5_send (l : Launch) (hfl : l.stackTraces = false) (D : va_G) (cI cZ : ClassId) (A : Nat → Nat)  (cs : St) (cw : St) (ct : St) (cu : St) (cl : St) (cb : St) (cp : St) (x1 : Int32) (x2 : Int32) (x3 : Int32) (x4 : Int32) (sz : Nat) (res : Nat) (hf : fX5_send cs cw ct cl cb cp x1 x2 x3 x4 = some (.inr res)) : vx_Met l yX5_send wsX5_send ({ frames := 7, cells := 1, slots := 6, locals := 125 }) (xP D (tysX cI cZ) [.ref (A 0), .int x1, .int x2, .int x3, .int x4] (wX5 cI cZ A cs cw ct cu cl cb cp) sz) (xQi (va_A (wX5 cI cZ A cs cw ct cu cl cb cp) sz)) (xC D (wX5 cI cZ A cs cw ct cu cl cb cp) res sz) 1 6 (va_A (wX5 cI cZ A cs cw ct cu cl cb cp) sz) := by
  refine mkX (cc := cX5_send) (maxL := 8) hfl (by decide +kernel) rfl rfl (Nat.le_of_ble_eq_true rfl) (by decide) ?_
  intro p e s m args below meth c A0 Q S hK hG hX hZ hA hT hTW hO
  obtain ⟨hx, hb, hml, hown, hts⟩ := id S
  have xw2 : ∀ w ∈ (vx_atS RX5 (xIc 2) (xn 2) xNames).filter goodWord, w ∈ wsX5_send := by decide +kernel
  have xc2 := hts (.classLink RX5 67 "java/lang/IllegalArgumentException") (by decide +kernel)
  have xi2 := hts (.initialized "java/lang/IllegalArgumentException") (by decide +kernel)
  have k12 := hts (.fieldLink RX5 12 "SwitchFloor" "wiring" "LSwitchFloor$Wiring;") (by decide +kernel)
  have iX5 : ∀ w ∈ wsX50, w ∈ wsX5_send := by decide +kernel
  have k116 := hts (.fieldLink RX5 116 "SwitchFloor$Wiring" "spotOfHouse" "[I") (by decide +kernel)
  have iX4 : ∀ w ∈ wsX40, w ∈ wsX5_send := by decide +kernel
  have k45 := hts (.fieldLink RX5 45 "SwitchFloor" "steps" "LSwitchFloor$Steps;") (by decide +kernel)
  have k174 := hts (.fieldLink RX5 174 "SwitchFloor$Steps" "size" "I") (by decide +kernel)
  have iX1 : ∀ w ∈ wsX10, w ∈ wsX5_send := by decide +kernel
  have xw3 : ∀ w ∈ (vx_atS RX5 (xIc 3) (xn 3) xNames).filter goodWord, w ∈ wsX5_send := by decide +kernel
  have xc3 := hts (.classLink RX5 86 "java/lang/IllegalStateException") (by decide +kernel)
  have xi3 := hts (.initialized "java/lang/IllegalStateException") (by decide +kernel)
  have B104 : ∀ (x1 : Int32) (x2 : Int32) (cs : St) (ct : St) (cb : St) (cp : St) (x6 : Int32) (x7 : Int32), fX5_send_L104 cw cl x1 x2 cs ct cb cp x6 x7 = some (.inr res) → Bk p l e ({ frames := 7, cells := 1, slots := 6, locals := 125 }) s m args below meth c Q A0 D 8 0 0 (wX5 cI cZ A cs cw ct cu cl cb cp) [(0, .ref (A 0)), (1, .int x1), (2, .int x2), (6, .int x6), (7, .int x7)] 104 [] := by
    intro x1 x2 cs ct cb cp x6 x7 hf
    refine loop_ind (step := (fun k a => fX5_send_S104 k cw cl x1 x2 (a.1) (a.2.1) (a.2.2.1) (a.2.2.2.1) (a.2.2.2.2.1) (a.2.2.2.2.2))) (fun a => Bk p l e ({ frames := 7, cells := 1, slots := 6, locals := 125 }) s m args below meth c Q A0 D 8 0 0 (wX5 cI cZ A (a.1) cw (a.2.1) cu cl (a.2.2.1) (a.2.2.2.1)) [(0, .ref (A 0)), (1, .int x1), (2, .int x2), (6, .int (a.2.2.2.2.1)), (7, .int (a.2.2.2.2.2))] 104 []) ?_ _ _ hf
    clear hf
    intro k104 hk104 a hf
    obtain ⟨cs_, ct_, cb_, cp_, x6_, x7_⟩ := a
    clear cs ct cb cp x6 x7
    obtain ⟨cs, e_⟩ : ∃ z, z = cs_ := ⟨_, rfl⟩
    subst e_
    obtain ⟨ct, e_⟩ : ∃ z, z = ct_ := ⟨_, rfl⟩
    subst e_
    obtain ⟨cb, e_⟩ : ∃ z, z = cb_ := ⟨_, rfl⟩
    subst e_
    obtain ⟨cp, e_⟩ : ∃ z, z = cp_ := ⟨_, rfl⟩
    subst e_
    obtain ⟨x6, e_⟩ : ∃ z, z = x6_ := ⟨_, rfl⟩
    subst e_
    obtain ⟨x7, e_⟩ : ∃ z, z = x7_ := ⟨_, rfl⟩
    subst e_
    have hf : fX5_send_S104 k104 cw cl x1 x2 cs ct cb cp x6 x7 = some (.inr res) := hf
    show Bk p l e ({ frames := 7, cells := 1, slots := 6, locals := 125 }) s m args below meth c Q A0 D 8 0 0 (wX5 cI cZ A cs cw ct cu cl cb cp) [(0, .ref (A 0)), (1, .int x1), (2, .int x2), (6, .int x6), (7, .int x7)] 104 []
    unfold fX5_send_S104 at hf
    intro H locs hP hD hS ls hl
    refine lv_iload hx hb dX5_send_104 (lv_at hl 4 rfl) ?_
    refine lv_sipush (v := 400) hx hb dX5_send_106 (by decide) ?_
    refine lv_icmp_ge (tgt := 143) hx hb dX5_send_109 (by decide) (fun c109 => ?_) (fun c109 => ?_)
    · have hf := if_t c109 hf
      refine lv_iload hx hb dX5_send_143 (lv_at hl 3 rfl) ?_
      cases hf
    · have hf := if_f c109 hf
      refine lv_iload hx hb dX5_send_112 (lv_at hl 4 rfl) ?_
      refine lv_aload_n hx hb dX5_send_114 rfl (lv_at hl 0 rfl) ?_
      refine ld_f S iX5 hK hP 0 5 (.ref (A 48)) (gX5_0 _ _ _ _ _ _ _ _ _ _) rfl (by decide) k45 rfl rfl dX5_send_115 ?_
      refine ld_f S iX1 hK hP 48 4 (.int (cp 4 0)) (gX5_48 _ _ _ _ _ _ _ _ _ _) rfl (by decide) k174 rfl rfl dX5_send_118 ?_
      refine lv_icmp_ge (tgt := 143) hx hb dX5_send_121 (by decide) (fun c121 => ?_) (fun c121 => ?_)
      · have hf := if_t c121 hf
        refine lv_iload hx hb dX5_send_143 (lv_at hl 3 rfl) ?_
        cases hf
      · have hf := if_f c121 hf
        refine lv_iload hx hb dX5_send_124 (lv_at hl 3 rfl) ?_
        refine lv_aload_n hx hb dX5_send_126 rfl (lv_at hl 0 rfl) ?_
        refine lv_iload hx hb dX5_send_127 (lv_at hl 4 rfl) ?_
        refine lv_iload_n hx hb dX5_send_129 rfl (lv_at hl 1 rfl) ?_
        refine lv_iload_n hx hb dX5_send_130 rfl (lv_at hl 2 rfl) ?_
        obtain ⟨q131, h131, hf⟩ := bd_t hf
        refine cl_i (va_runV (As := [.int x7, .int x1, .int x2]) (rest := [.int x6]) S (mX5_takeStep l D cI cZ A cs cw ct cu cl cb cp x7 x1 x2 H.size q131 h131) (cwV 3 hts gX5_send_X5_takeStep rfl rfl rfl (by decide +kernel) ⟨Nat.le_of_ble_eq_true rfl, Nat.le_of_ble_eq_true rfl⟩) (mP_V (ci := 5) (Cut.self _ []) hP hD hK hG rfl (gX5_0 _ _ _ _ _ _ _ _ _ _)) rfl rfl hl.1 rfl (lv_room (Nat.le_of_ble_eq_true rfl)) dX5_send_131 ⟨Nat.le_of_ble_eq_true rfl, Nat.le_of_ble_eq_true rfl⟩) (Cut.self _ _) hP hD hS hA (fun H locs hP hD hS => ?_)
        refine lv_iadd hx hb dX5_send_134 ?_
        refine lv_istore (lv' := [(6, .int (x6 + q131.1)), (0, .ref (A 0)), (1, .int x1), (2, .int x2), (7, .int x7)]) hx hb dX5_send_135 hl (by decide) rfl (fun ls hl => ?_)
        refine lv_iinc (v := x7 + 1) (lv' := [(7, .int (x7 + 1)), (6, .int (x6 + q131.1)), (0, .ref (A 0)), (1, .int x1), (2, .int x2)]) hx hb dX5_send_137 hl (k := 4) rfl rfl (by decide) rfl (fun ls hl => ?_)
        refine lv_goto (tgt := 104) hx hb dX5_send_140 (by decide) ?_
        exact hk104 _ hf H locs hP hD hS ls (lv_sub hl [2, 3, 4, 1, 0] rfl)
  have B51 : ∀ (x1 : Int32) (x2 : Int32) (x3 : Int32) (x4 : Int32), fX5_send_J51 cs cw ct cl cb cp x1 x2 x3 x4 = some (.inr res) → Bk p l e ({ frames := 7, cells := 1, slots := 6, locals := 125 }) s m args below meth c Q A0 D 8 0 0 (wX5 cI cZ A cs cw ct cu cl cb cp) [(0, .ref (A 0)), (1, .int x1), (2, .int x2), (3, .int x3), (4, .int x4)] 51 [] := by
    intro x1 x2 x3 x4 hf
    unfold fX5_send_J51 at hf
    intro H locs hP hD hS ls hl
    refine lv_aload_n hx hb dX5_send_51 rfl (lv_at hl 0 rfl) ?_
    refine ld_f S iX5 hK hP 0 0 (.ref (A 4)) (gX5_0 _ _ _ _ _ _ _ _ _ _) rfl (by decide) k12 rfl rfl dX5_send_52 ?_
    refine ld_f S iX4 hK hP 4 4 (.ref (A 9)) (gX5_4 _ _ _ _ _ _ _ _ _ _) rfl (by decide) k116 rfl rfl dX5_send_55 ?_
    refine lv_iload_n hx hb dX5_send_58 rfl (lv_at hl 1 rfl) ?_
    obtain ⟨c59, hf⟩ := ck_t hf
    refine va_iald (f := cw 4) hx hb hK hP 9 0 (gX5_9 _ _ _ _ _ _ _ _ _ _) rfl (inb_in c59) dX5_send_59 ?_
    refine lv_istore (lv' := [(5, .int (cw 4 x1.toNatClampNeg)), (0, .ref (A 0)), (1, .int x1), (2, .int x2), (3, .int x3), (4, .int x4)]) hx hb dX5_send_60 hl (by decide) rfl (fun ls hl => ?_)
    refine lv_iload hx hb dX5_send_62 (lv_at hl 0 rfl) ?_
    refine lv_iconst (v := (-1)) hx hb dX5_send_64 (by decide) ?_
    refine lv_icmp_ne (tgt := 78) hx hb dX5_send_65 (by decide) (fun c65 => ?_) (fun c65 => ?_)
    · have hf := if_f c65 hf
      refine lv_aload_n hx hb dX5_send_78 rfl (lv_at hl 1 rfl) ?_
      refine ld_f S iX5 hK hP 0 5 (.ref (A 48)) (gX5_0 _ _ _ _ _ _ _ _ _ _) rfl (by decide) k45 rfl rfl dX5_send_79 ?_
      obtain ⟨q82, h82, hf⟩ := bd_t hf
      refine cl_v (va_runV (As := []) (rest := []) S (mX1_restart l D cI cZ (aX5_X1_6 A) cp H.size q82 h82) (cwV 0 hts gX5_send_X1_restart rfl rfl rfl (by decide +kernel) ⟨Nat.le_of_ble_eq_true rfl, Nat.le_of_ble_eq_true rfl⟩) (mP_V (ci := 1) (cutX5_X1_6 _ _ _ _ _ _ _ _ _ _ st0) hP hD hK hG rfl (gX1_0 _ _ _ _)) rfl rfl hl.1 rfl (lv_room (Nat.le_of_ble_eq_true rfl)) dX5_send_82 ⟨Nat.le_of_ble_eq_true rfl, Nat.le_of_ble_eq_true rfl⟩) (cutX5_X1_6 _ _ _ _ _ _ _ _ _ _ _) hP hD hS hA (fun H locs hP hD hS => ?_)
      refine lv_aload_n hx hb dX5_send_85 rfl (lv_at hl 1 rfl) ?_
      refine ld_f S iX5 hK hP 0 5 (.ref (A 48)) (gX5_0 _ _ _ _ _ _ _ _ _ _) rfl (by decide) k45 rfl rfl dX5_send_86 ?_
      refine lv_iload hx hb dX5_send_89 (lv_at hl 0 rfl) ?_
      refine lv_iload_n hx hb dX5_send_91 rfl (lv_at hl 4 rfl) ?_
      refine lv_iload hx hb dX5_send_92 (lv_at hl 5 rfl) ?_
      refine lv_iconst (v := 0) hx hb dX5_send_94 (by decide) ?_
      obtain ⟨q95, h95, hf⟩ := bd_t hf
      refine cl_v (va_runV (As := [.int (cw 4 x1.toNatClampNeg), .int x3, .int x4, .int 0]) (rest := []) S (mX1_add l D cI cZ (aX5_X1_6 A) q82 (cw 4 x1.toNatClampNeg) x3 x4 0 H.size q95 h95) (cwV 4 hts gX5_send_X1_add rfl rfl rfl (by decide +kernel) ⟨Nat.le_of_ble_eq_true rfl, Nat.le_of_ble_eq_true rfl⟩) (mP_V (ci := 1) (cutX5_X1_6 _ _ _ _ _ _ _ _ _ _ st0) hP hD hK hG rfl (gX1_0 _ _ _ _)) rfl rfl hl.1 rfl (lv_room (Nat.le_of_ble_eq_true rfl)) dX5_send_95 ⟨Nat.le_of_ble_eq_true rfl, Nat.le_of_ble_eq_true rfl⟩) (cutX5_X1_6 _ _ _ _ _ _ _ _ _ _ _) hP hD hS hA (fun H locs hP hD hS => ?_)
      refine lv_iconst (v := 0) hx hb dX5_send_98 (by decide) ?_
      refine lv_istore (lv' := [(6, .int 0), (5, .int (cw 4 x1.toNatClampNeg)), (0, .ref (A 0)), (1, .int x1), (2, .int x2), (3, .int x3), (4, .int x4)]) hx hb dX5_send_99 hl (by decide) rfl (fun ls hl => ?_)
      refine lv_iconst (v := 0) hx hb dX5_send_101 (by decide) ?_
      refine lv_istore (lv' := [(7, .int 0), (6, .int 0), (5, .int (cw 4 x1.toNatClampNeg)), (0, .ref (A 0)), (1, .int x1), (2, .int x2), (3, .int x3), (4, .int x4)]) hx hb dX5_send_102 hl (by decide) rfl (fun ls hl => ?_)
      exact B104 _ _ _ _ _ _ _ _ hf H locs hP hD hS ls (lv_sub hl [3, 4, 5, 1, 0] rfl)
    · have hf := if_t c65 hf
      cases hf
      exact hT _ ls H locs _ 86 165 "the house is at no port" (by decide) (by decide +kernel) xc3 xi3 (fun w h => hts w (xw3 w h)) dX5_send_68 dX5_send_71 dX5_send_72 dX5_send_74 dX5_send_77 hl.1 (Nat.le_of_ble_eq_true rfl) hP hD hS
  have B14 : ∀ (x1 : Int32) (x2 : Int32) (x3 : Int32) (x4 : Int32), fX5_send_J14 cs cw ct cl cb cp x1 x2 x3 x4 = some (.inr res) → Bk p l e ({ frames := 7, cells := 1, slots := 6, locals := 125 }) s m args below meth c Q A0 D 8 0 0 (wX5 cI cZ A cs cw ct cu cl cb cp) [(0, .ref (A 0)), (1, .int x1), (2, .int x2), (3, .int x3), (4, .int x4)] 14 [] := by
    intro x1 x2 x3 x4 hf
    unfold fX5_send_J14 at hf
    intro H locs hP hD hS ls hl
    refine lv_iload_n hx hb dX5_send_14 rfl (lv_at hl 3 rfl) ?_
    refine lv_iconst (v := 0) hx hb dX5_send_15 (by decide) ?_
    refine lv_iconst (v := 3) hx hb dX5_send_16 (by decide) ?_
    rcases bx_r hf with h17x | ⟨q17, h17, hf⟩
    · exact clx_v (k := res) (vx_runS (As := [.int x3, .int 0, .int 3]) (rest := []) S (xX5_needWithin l hfl D cI cZ x3 0 3 H.size res h17x) (va_cwS 3 hts gX5_send_X5_needWithin rfl rfl rfl (by decide +kernel) ⟨Nat.le_of_ble_eq_true rfl, Nat.le_of_ble_eq_true rfl⟩) (xP_S (Cut.nil _) hP hD hS hA hK hG hX hZ) rfl rfl hl.1 rfl (lv_room (Nat.le_of_ble_eq_true rfl)) dX5_send_17 ⟨Nat.le_of_ble_eq_true rfl, Nat.le_of_ble_eq_true rfl⟩) (Cut.nil _) rfl hP hD hS hA (fun E ce q9 H locs hE hce hcv hcl hP hD hS => hO _ ls H locs _ E ce q9 hE hce hcv hcl hP hD hS)
    refine cl_v (va_runS (As := [.int x3, .int 0, .int 3]) (rest := []) S (mX5_needWithin l D cI cZ x3 0 3 H.size q17 h17) (va_cwS 3 hts gX5_send_X5_needWithin rfl rfl rfl (by decide +kernel) ⟨Nat.le_of_ble_eq_true rfl, Nat.le_of_ble_eq_true rfl⟩) (mP_S (Cut.nil _) hP hD hK hG) rfl rfl hl.1 rfl (lv_room (Nat.le_of_ble_eq_true rfl)) dX5_send_17 ⟨Nat.le_of_ble_eq_true rfl, Nat.le_of_ble_eq_true rfl⟩) (Cut.nil _) hP hD hS hA (fun H locs hP hD hS => ?_)
    refine lv_iload hx hb dX5_send_20 (lv_at hl 4 rfl) ?_
    refine lv_iconst (v := 0) hx hb dX5_send_22 (by decide) ?_
    refine lv_iconst (v := 3) hx hb dX5_send_23 (by decide) ?_
    rcases bx_r hf with h24x | ⟨q24, h24, hf⟩
    · exact clx_v (k := res) (vx_runS (As := [.int x4, .int 0, .int 3]) (rest := []) S (xX5_needWithin l hfl D cI cZ x4 0 3 H.size res h24x) (va_cwS 3 hts gX5_send_X5_needWithin rfl rfl rfl (by decide +kernel) ⟨Nat.le_of_ble_eq_true rfl, Nat.le_of_ble_eq_true rfl⟩) (xP_S (Cut.nil _) hP hD hS hA hK hG hX hZ) rfl rfl hl.1 rfl (lv_room (Nat.le_of_ble_eq_true rfl)) dX5_send_24 ⟨Nat.le_of_ble_eq_true rfl, Nat.le_of_ble_eq_true rfl⟩) (Cut.nil _) rfl hP hD hS hA (fun E ce q9 H locs hE hce hcv hcl hP hD hS => hO _ ls H locs _ E ce q9 hE hce hcv hcl hP hD hS)
    refine cl_v (va_runS (As := [.int x4, .int 0, .int 3]) (rest := []) S (mX5_needWithin l D cI cZ x4 0 3 H.size q24 h24) (va_cwS 3 hts gX5_send_X5_needWithin rfl rfl rfl (by decide +kernel) ⟨Nat.le_of_ble_eq_true rfl, Nat.le_of_ble_eq_true rfl⟩) (mP_S (Cut.nil _) hP hD hK hG) rfl rfl hl.1 rfl (lv_room (Nat.le_of_ble_eq_true rfl)) dX5_send_24 ⟨Nat.le_of_ble_eq_true rfl, Nat.le_of_ble_eq_true rfl⟩) (Cut.nil _) hP hD hS hA (fun H locs hP hD hS => ?_)
    refine lv_iload_n hx hb dX5_send_27 rfl (lv_at hl 1 rfl) ?_
    refine lv_iload_n hx hb dX5_send_28 rfl (lv_at hl 2 rfl) ?_
    refine lv_icmp_eq (tgt := 41) hx hb dX5_send_29 (by decide) (fun c29 => ?_) (fun c29 => ?_)
    · have hf := if_t c29 hf
      cases hf
      exact hT _ ls H locs _ 67 163 "no such frame" (by decide) (by decide +kernel) xc2 xi2 (fun w h => hts w (xw2 w h)) dX5_send_41 dX5_send_44 dX5_send_45 dX5_send_47 dX5_send_50 hl.1 (Nat.le_of_ble_eq_true rfl) hP hD hS
    · have hf := if_f c29 hf
      refine lv_iload_n hx hb dX5_send_32 rfl (lv_at hl 3 rfl) ?_
      refine lv_if_ne (tgt := 51) hx hb dX5_send_33 (by decide) (fun c33 => ?_) (fun c33 => ?_)
      · have hf := if_f c33 hf
        exact B51 _ _ _ _ hf H locs hP hD hS ls (lv_sub hl [0, 1, 2, 3, 4] rfl)
      · have hf := if_t c33 hf
        refine lv_iload hx hb dX5_send_36 (lv_at hl 4 rfl) ?_
        refine lv_if_eq (tgt := 51) hx hb dX5_send_38 (by decide) (fun c38 => ?_) (fun c38 => ?_)
        · have hf := if_t c38 hf
          exact B51 _ _ _ _ hf H locs hP hD hS ls (lv_sub hl [0, 1, 2, 3, 4] rfl)
        · have hf := if_f c38 hf
          cases hf
          exact hT _ ls H locs _ 67 163 "no such frame" (by decide) (by decide +kernel) xc2 xi2 (fun w h => hts w (xw2 w h)) dX5_send_41 dX5_send_44 dX5_send_45 dX5_send_47 dX5_send_50 hl.1 (Nat.le_of_ble_eq_true rfl) hP hD hS
  intro H locs hP hD hS ls hl
  have hl : lv_has ls 8 [(0, .ref (A 0)), (1, .int x1), (2, .int x2), (3, .int x3), (4, .int x4)] := hl
  unfold fX5_send at hf
  refine lv_iload_n hx hb dX5_send_0 rfl (lv_at hl 1 rfl) ?_
  rcases bx_r hf with h1x | ⟨q1, h1, hf⟩
  · exact clx_v (k := res) (vx_runS (As := [.int x1]) (rest := []) S (xX5_needHouse l hfl D cI cZ x1 H.size res h1x) (va_cwS 1 hts gX5_send_X5_needHouse rfl rfl rfl (by decide +kernel) ⟨Nat.le_of_ble_eq_true rfl, Nat.le_of_ble_eq_true rfl⟩) (xP_S (Cut.nil _) hP hD hS hA hK hG hX hZ) rfl rfl hl.1 rfl (lv_room (Nat.le_of_ble_eq_true rfl)) dX5_send_1 ⟨Nat.le_of_ble_eq_true rfl, Nat.le_of_ble_eq_true rfl⟩) (Cut.nil _) rfl hP hD hS hA (fun E ce q9 H locs hE hce hcv hcl hP hD hS => hO _ ls H locs _ E ce q9 hE hce hcv hcl hP hD hS)
  refine cl_v (va_runS (As := [.int x1]) (rest := []) S (mX5_needHouse l D cI cZ x1 H.size q1 h1) (va_cwS 1 hts gX5_send_X5_needHouse rfl rfl rfl (by decide +kernel) ⟨Nat.le_of_ble_eq_true rfl, Nat.le_of_ble_eq_true rfl⟩) (mP_S (Cut.nil _) hP hD hK hG) rfl rfl hl.1 rfl (lv_room (Nat.le_of_ble_eq_true rfl)) dX5_send_1 ⟨Nat.le_of_ble_eq_true rfl, Nat.le_of_ble_eq_true rfl⟩) (Cut.nil _) hP hD hS hA (fun H locs hP hD hS => ?_)
  refine lv_iload_n hx hb dX5_send_4 rfl (lv_at hl 2 rfl) ?_
  refine lv_bipush (v := 10) hx hb dX5_send_5 (by decide) ?_
  refine lv_icmp_eq (tgt := 14) hx hb dX5_send_7 (by decide) (fun c7 => ?_) (fun c7 => ?_)
  · have hf := if_t c7 hf
    exact B14 _ _ _ _ hf H locs hP hD hS ls (lv_sub hl [0, 1, 2, 3, 4] rfl)
  · have hf := if_f c7 hf
    refine lv_iload_n hx hb dX5_send_10 rfl (lv_at hl 2 rfl) ?_
    rcases bx_r hf with h11x | ⟨q11, h11, hf⟩
    · exact clx_v (k := res) (vx_runS (As := [.int x2]) (rest := []) S (xX5_needHouse l hfl D cI cZ x2 H.size res h11x) (va_cwS 1 hts gX5_send_X5_needHouse rfl rfl rfl (by decide +kernel) ⟨Nat.le_of_ble_eq_true rfl, Nat.le_of_ble_eq_true rfl⟩) (xP_S (Cut.nil _) hP hD hS hA hK hG hX hZ) rfl rfl hl.1 rfl (lv_room (Nat.le_of_ble_eq_true rfl)) dX5_send_11 ⟨Nat.le_of_ble_eq_true rfl, Nat.le_of_ble_eq_true rfl⟩) (Cut.nil _) rfl hP hD hS hA (fun E ce q9 H locs hE hce hcv hcl hP hD hS => hO _ ls H locs _ E ce q9 hE hce hcv hcl hP hD hS)
    refine cl_v (va_runS (As := [.int x2]) (rest := []) S (mX5_needHouse l D cI cZ x2 H.size q11 h11) (va_cwS 1 hts gX5_send_X5_needHouse rfl rfl rfl (by decide +kernel) ⟨Nat.le_of_ble_eq_true rfl, Nat.le_of_ble_eq_true rfl⟩) (mP_S (Cut.nil _) hP hD hK hG) rfl rfl hl.1 rfl (lv_room (Nat.le_of_ble_eq_true rfl)) dX5_send_11 ⟨Nat.le_of_ble_eq_true rfl, Nat.le_of_ble_eq_true rfl⟩) (Cut.nil _) hP hD hS hA (fun H locs hP hD hS => ?_)
    exact B14 _ _ _ _ hf H locs hP hD hS ls (lv_sub hl [0, 1, 2, 3, 4] rfl)
set_option maxHeartbeats 4000000 in
set_option maxRecDepth 100000 in
theorem xX5_holds (l : Launch) (hfl : l.stackTraces = false) (D : va_G) (cI cZ : ClassId) (A : Nat → Nat)  (cs : St) (cw : St) (ct : St) (cu : St) (cl : St) (cb : St) (cp : St) (x1 : Int32) (x2 : Int32) (sz : Nat) (res : Nat) (hf : fX5_holds ct cb x1 x2 = some (.inr res)) : vx_Met l yX5_holds wsX5_holds ({ frames := 7, cells := 1, slots := 6, locals := 116 }) (xP D (tysX cI cZ) [.ref (A 0), .int x1, .int x2] (wX5 cI cZ A cs cw ct cu cl cb cp) sz) (xQi (va_A (wX5 cI cZ A cs cw ct cu cl cb cp) sz)) (xC D (wX5 cI cZ A cs cw ct cu cl cb cp) res sz) 1 6 (va_A (wX5 cI cZ A cs cw ct cu cl cb cp) sz) := by
  refine mkX (cc := cX5_holds) (maxL := 3) hfl (by decide +kernel) rfl rfl (Nat.le_of_ble_eq_true rfl) (by decide) ?_
  intro p e s m args below meth c A0 Q S hK hG hX hZ hA hT hTW hO
  obtain ⟨hx, hb, hml, hown, hts⟩ := id S
  have k21 := hts (.fieldLink RX5 21 "SwitchFloor" "tree" "LSwitchFloor$Tree;") (by decide +kernel)
  have iX5 : ∀ w ∈ wsX50, w ∈ wsX5_holds := by decide +kernel
  have k181 := hts (.fieldLink RX5 181 "SwitchFloor$Tree" "root" "[I") (by decide +kernel)
  have iX3 : ∀ w ∈ wsX30, w ∈ wsX5_holds := by decide +kernel
  have k184 := hts (.fieldLink RX5 184 "SwitchFloor$Tree" "cost" "[I") (by decide +kernel)
  have k187 := hts (.fieldLink RX5 187 "SwitchFloor$Tree" "hops" "[I") (by decide +kernel)
  have k190 := hts (.fieldLink RX5 190 "SwitchFloor$Tree" "rootPort" "[I") (by decide +kernel)
  have k38 := hts (.fieldLink RX5 38 "SwitchFloor" "tables" "LSwitchFloor$Tables;") (by decide +kernel)
  have k193 := hts (.fieldLink RX5 193 "SwitchFloor$Tables" "entries" "[I") (by decide +kernel)
  have iX2 : ∀ w ∈ wsX20, w ∈ wsX5_holds := by decide +kernel
  have xw2 : ∀ w ∈ (vx_atS RX5 (xIc 2) (xn 2) xNames).filter goodWord, w ∈ wsX5_holds := by decide +kernel
  have xc2 := hts (.classLink RX5 67 "java/lang/IllegalArgumentException") (by decide +kernel)
  have xi2 := hts (.initialized "java/lang/IllegalArgumentException") (by decide +kernel)
  intro H locs hP hD hS ls hl
  have hl : lv_has ls 3 [(0, .ref (A 0)), (1, .int x1), (2, .int x2)] := hl
  unfold fX5_holds at hf
  refine lv_iload_n hx hb dX5_holds_0 rfl (lv_at hl 1 rfl) ?_
  rcases bx_r hf with h1x | ⟨q1, h1, hf⟩
  · exact clx_v (k := res) (vx_runS (As := [.int x1]) (rest := []) S (xX5_needSwitch l hfl D cI cZ x1 H.size res h1x) (va_cwS 1 hts gX5_holds_X5_needSwitch rfl rfl rfl (by decide +kernel) ⟨Nat.le_of_ble_eq_true rfl, Nat.le_of_ble_eq_true rfl⟩) (xP_S (Cut.nil _) hP hD hS hA hK hG hX hZ) rfl rfl hl.1 rfl (lv_room (Nat.le_of_ble_eq_true rfl)) dX5_holds_1 ⟨Nat.le_of_ble_eq_true rfl, Nat.le_of_ble_eq_true rfl⟩) (Cut.nil _) rfl hP hD hS hA (fun E ce q9 H locs hE hce hcv hcl hP hD hS => hO _ ls H locs _ E ce q9 hE hce hcv hcl hP hD hS)
  refine cl_v (va_runS (As := [.int x1]) (rest := []) S (mX5_needSwitch l D cI cZ x1 H.size q1 h1) (va_cwS 1 hts gX5_holds_X5_needSwitch rfl rfl rfl (by decide +kernel) ⟨Nat.le_of_ble_eq_true rfl, Nat.le_of_ble_eq_true rfl⟩) (mP_S (Cut.nil _) hP hD hK hG) rfl rfl hl.1 rfl (lv_room (Nat.le_of_ble_eq_true rfl)) dX5_holds_1 ⟨Nat.le_of_ble_eq_true rfl, Nat.le_of_ble_eq_true rfl⟩) (Cut.nil _) hP hD hS hA (fun H locs hP hD hS => ?_)
  refine lv_iload_n hx hb dX5_holds_4 rfl (lv_at hl 2 rfl) ?_
  by_cases c5_0 : x2 = 0
  · have hf := if_t c5_0 hf
    refine lv_tableIn (off := 35) (tgt := 40) hx hb dX5_holds_5 (by rw [c5_0]; decide) (by rw [c5_0]; decide) (by rw [c5_0]; decide) (by decide) ?_
    refine lv_aload_n hx hb dX5_holds_40 rfl (lv_at hl 0 rfl) ?_
    refine ld_f S iX5 hK hP 0 1 (.ref (A 11)) (gX5_0 _ _ _ _ _ _ _ _ _ _) rfl (by decide) k21 rfl rfl dX5_holds_41 ?_
    refine ld_f S iX3 hK hP 11 1 (.ref (A 12)) (gX5_11 _ _ _ _ _ _ _ _ _ _) rfl (by decide) k181 rfl rfl dX5_holds_44 ?_
    refine lv_iload_n hx hb dX5_holds_47 rfl (lv_at hl 1 rfl) ?_
    obtain ⟨c48, hf⟩ := ck_t hf
    refine va_iald (f := ct 1) hx hb hK hP 12 0 (gX5_12 _ _ _ _ _ _ _ _ _ _) rfl (inb_in c48) dX5_holds_48 ?_
    cases hf
  have hf := if_f c5_0 hf
  by_cases c5_1 : x2 = 1
  · have hf := if_t c5_1 hf
    refine lv_tableIn (off := 45) (tgt := 50) hx hb dX5_holds_5 (by rw [c5_1]; decide) (by rw [c5_1]; decide) (by rw [c5_1]; decide) (by decide) ?_
    refine lv_aload_n hx hb dX5_holds_50 rfl (lv_at hl 0 rfl) ?_
    refine ld_f S iX5 hK hP 0 1 (.ref (A 11)) (gX5_0 _ _ _ _ _ _ _ _ _ _) rfl (by decide) k21 rfl rfl dX5_holds_51 ?_
    refine ld_f S iX3 hK hP 11 2 (.ref (A 13)) (gX5_11 _ _ _ _ _ _ _ _ _ _) rfl (by decide) k184 rfl rfl dX5_holds_54 ?_
    refine lv_iload_n hx hb dX5_holds_57 rfl (lv_at hl 1 rfl) ?_
    obtain ⟨c58, hf⟩ := ck_t hf
    refine va_iald (f := ct 2) hx hb hK hP 13 0 (gX5_13 _ _ _ _ _ _ _ _ _ _) rfl (inb_in c58) dX5_holds_58 ?_
    cases hf
  have hf := if_f c5_1 hf
  by_cases c5_2 : x2 = 2
  · have hf := if_t c5_2 hf
    refine lv_tableIn (off := 55) (tgt := 60) hx hb dX5_holds_5 (by rw [c5_2]; decide) (by rw [c5_2]; decide) (by rw [c5_2]; decide) (by decide) ?_
    refine lv_aload_n hx hb dX5_holds_60 rfl (lv_at hl 0 rfl) ?_
    refine ld_f S iX5 hK hP 0 1 (.ref (A 11)) (gX5_0 _ _ _ _ _ _ _ _ _ _) rfl (by decide) k21 rfl rfl dX5_holds_61 ?_
    refine ld_f S iX3 hK hP 11 3 (.ref (A 14)) (gX5_11 _ _ _ _ _ _ _ _ _ _) rfl (by decide) k187 rfl rfl dX5_holds_64 ?_
    refine lv_iload_n hx hb dX5_holds_67 rfl (lv_at hl 1 rfl) ?_
    obtain ⟨c68, hf⟩ := ck_t hf
    refine va_iald (f := ct 3) hx hb hK hP 14 0 (gX5_14 _ _ _ _ _ _ _ _ _ _) rfl (inb_in c68) dX5_holds_68 ?_
    cases hf
  have hf := if_f c5_2 hf
  by_cases c5_3 : x2 = 3
  · have hf := if_t c5_3 hf
    refine lv_tableIn (off := 65) (tgt := 70) hx hb dX5_holds_5 (by rw [c5_3]; decide) (by rw [c5_3]; decide) (by rw [c5_3]; decide) (by decide) ?_
    refine lv_aload_n hx hb dX5_holds_70 rfl (lv_at hl 0 rfl) ?_
    refine ld_f S iX5 hK hP 0 1 (.ref (A 11)) (gX5_0 _ _ _ _ _ _ _ _ _ _) rfl (by decide) k21 rfl rfl dX5_holds_71 ?_
    refine ld_f S iX3 hK hP 11 4 (.ref (A 15)) (gX5_11 _ _ _ _ _ _ _ _ _ _) rfl (by decide) k190 rfl rfl dX5_holds_74 ?_
    refine lv_iload_n hx hb dX5_holds_77 rfl (lv_at hl 1 rfl) ?_
    obtain ⟨c78, hf⟩ := ck_t hf
    refine va_iald (f := ct 4) hx hb hK hP 15 0 (gX5_15 _ _ _ _ _ _ _ _ _ _) rfl (inb_in c78) dX5_holds_78 ?_
    cases hf
  have hf := if_f c5_3 hf
  by_cases c5_4 : x2 = 4
  · have hf := if_t c5_4 hf
    refine lv_tableIn (off := 75) (tgt := 80) hx hb dX5_holds_5 (by rw [c5_4]; decide) (by rw [c5_4]; decide) (by rw [c5_4]; decide) (by decide) ?_
    refine lv_aload_n hx hb dX5_holds_80 rfl (lv_at hl 0 rfl) ?_
    refine ld_f S iX5 hK hP 0 4 (.ref (A 44)) (gX5_0 _ _ _ _ _ _ _ _ _ _) rfl (by decide) k38 rfl rfl dX5_holds_81 ?_
    refine ld_f S iX2 hK hP 44 2 (.ref (A 47)) (gX5_44 _ _ _ _ _ _ _ _ _ _) rfl (by decide) k193 rfl rfl dX5_holds_84 ?_
    refine lv_iload_n hx hb dX5_holds_87 rfl (lv_at hl 1 rfl) ?_
    obtain ⟨c88, hf⟩ := ck_t hf
    refine va_iald (f := cb 2) hx hb hK hP 47 0 (gX5_47 _ _ _ _ _ _ _ _ _ _) rfl (inb_in c88) dX5_holds_88 ?_
    cases hf
  have hf := if_f c5_4 hf
  refine lv_tableOut (tgt := 90) hx hb dX5_holds_5 (sw_out 0 4 (fun j h1 h2 => ?_)) (by decide) ?_
  · rcases (show j = 0 ∨ j = 1 ∨ j = 2 ∨ j = 3 ∨ j = 4 by omega) with e9 | e9 | e9 | e9 | e9 <;> subst e9
    · exact fun e => c5_0 (e.trans (by decide))
    · exact fun e => c5_1 (e.trans (by decide))
    · exact fun e => c5_2 (e.trans (by decide))
    · exact fun e => c5_3 (e.trans (by decide))
    · exact fun e => c5_4 (e.trans (by decide))
  cases hf
  exact hT _ ls H locs _ 67 196 "nothing of that kind is held" (by decide) (by decide +kernel) xc2 xi2 (fun w h => hts w (xw2 w h)) dX5_holds_90 dX5_holds_93 dX5_holds_94 dX5_holds_96 dX5_holds_99 hl.1 (Nat.le_of_ble_eq_true rfl) hP hD hS
set_option maxHeartbeats 4000000 in
set_option maxRecDepth 100000 in
theorem xX5_port (l : Launch) (hfl : l.stackTraces = false) (D : va_G) (cI cZ : ClassId) (A : Nat → Nat)  (cs : St) (cw : St) (ct : St) (cu : St) (cl : St) (cb : St) (cp : St) (x1 : Int32) (x2 : Int32) (x3 : Int32) (sz : Nat) (res : Nat) (hf : fX5_port cs ct x1 x2 x3 = some (.inr res)) : vx_Met l yX5_port wsX5_port ({ frames := 8, cells := 1, slots := 6, locals := 137 }) (xP D (tysX cI cZ) [.ref (A 0), .int x1, .int x2, .int x3] (wX5 cI cZ A cs cw ct cu cl cb cp) sz) (xQi (va_A (wX5 cI cZ A cs cw ct cu cl cb cp) sz)) (xC D (wX5 cI cZ A cs cw ct cu cl cb cp) res sz) 1 6 (va_A (wX5 cI cZ A cs cw ct cu cl cb cp) sz) := by
  refine mkX (cc := cX5_port) (maxL := 5) hfl (by decide +kernel) rfl rfl (Nat.le_of_ble_eq_true rfl) (by decide) ?_
  intro p e s m args below meth c A0 Q S hK hG hX hZ hA hT hTW hO
  obtain ⟨hx, hb, hml, hown, hts⟩ := id S
  have k21 := hts (.fieldLink RX5 21 "SwitchFloor" "tree" "LSwitchFloor$Tree;") (by decide +kernel)
  have iX5 : ∀ w ∈ wsX50, w ∈ wsX5_port := by decide +kernel
  have k198 := hts (.fieldLink RX5 198 "SwitchFloor$Tree" "open" "[Z") (by decide +kernel)
  have iX3 : ∀ w ∈ wsX30, w ∈ wsX5_port := by decide +kernel
  have k202 := hts (.fieldLink RX5 202 "SwitchFloor$Tree" "role" "[I") (by decide +kernel)
  have k49 := hts (.fieldLink RX5 49 "SwitchFloor" "floods" "[I") (by decide +kernel)
  have xw2 : ∀ w ∈ (vx_atS RX5 (xIc 2) (xn 2) xNames).filter goodWord, w ∈ wsX5_port := by decide +kernel
  have xc2 := hts (.classLink RX5 67 "java/lang/IllegalArgumentException") (by decide +kernel)
  have xi2 := hts (.initialized "java/lang/IllegalArgumentException") (by decide +kernel)
  intro H locs hP hD hS ls hl
  have hl : lv_has ls 5 [(0, .ref (A 0)), (1, .int x1), (2, .int x2), (3, .int x3)] := hl
  unfold fX5_port at hf
  refine lv_iload_n hx hb dX5_port_0 rfl (lv_at hl 1 rfl) ?_
  refine lv_iload_n hx hb dX5_port_1 rfl (lv_at hl 2 rfl) ?_
  rcases bx_r hf with h2x | ⟨q2, h2, hf⟩
  · exact clx_v (k := res) (vx_runS (As := [.int x1, .int x2]) (rest := []) S (xX5_needPort l hfl D cI cZ x1 x2 H.size res h2x) (va_cwS 2 hts gX5_port_X5_needPort rfl rfl rfl (by decide +kernel) ⟨Nat.le_of_ble_eq_true rfl, Nat.le_of_ble_eq_true rfl⟩) (xP_S (Cut.nil _) hP hD hS hA hK hG hX hZ) rfl rfl hl.1 rfl (lv_room (Nat.le_of_ble_eq_true rfl)) dX5_port_2 ⟨Nat.le_of_ble_eq_true rfl, Nat.le_of_ble_eq_true rfl⟩) (Cut.nil _) rfl hP hD hS hA (fun E ce q9 H locs hE hce hcv hcl hP hD hS => hO _ ls H locs _ E ce q9 hE hce hcv hcl hP hD hS)
  refine cl_v (va_runS (As := [.int x1, .int x2]) (rest := []) S (mX5_needPort l D cI cZ x1 x2 H.size q2 h2) (va_cwS 2 hts gX5_port_X5_needPort rfl rfl rfl (by decide +kernel) ⟨Nat.le_of_ble_eq_true rfl, Nat.le_of_ble_eq_true rfl⟩) (mP_S (Cut.nil _) hP hD hK hG) rfl rfl hl.1 rfl (lv_room (Nat.le_of_ble_eq_true rfl)) dX5_port_2 ⟨Nat.le_of_ble_eq_true rfl, Nat.le_of_ble_eq_true rfl⟩) (Cut.nil _) hP hD hS hA (fun H locs hP hD hS => ?_)
  refine lv_iload_n hx hb dX5_port_5 rfl (lv_at hl 1 rfl) ?_
  refine lv_iload_n hx hb dX5_port_6 rfl (lv_at hl 2 rfl) ?_
  obtain ⟨q7, h7, hf⟩ := bd_t hf
  refine cl_i (va_runS (As := [.int x1, .int x2]) (rest := []) S (mX5_spotOf l D cI cZ x1 x2 H.size q7 h7) (va_cwS 2 hts gX5_port_X5_spotOf rfl rfl rfl (by decide +kernel) ⟨Nat.le_of_ble_eq_true rfl, Nat.le_of_ble_eq_true rfl⟩) (mP_S (Cut.nil _) hP hD hK hG) rfl rfl hl.1 rfl (lv_room (Nat.le_of_ble_eq_true rfl)) dX5_port_7 ⟨Nat.le_of_ble_eq_true rfl, Nat.le_of_ble_eq_true rfl⟩) (Cut.nil _) hP hD hS hA (fun H locs hP hD hS => ?_)
  refine lv_istore (lv' := [(4, .int q7), (0, .ref (A 0)), (1, .int x1), (2, .int x2), (3, .int x3)]) hx hb dX5_port_10 hl (by decide) rfl (fun ls hl => ?_)
  refine lv_iload_n hx hb dX5_port_12 rfl (lv_at hl 4 rfl) ?_
  by_cases c13_0 : x3 = 0
  · have hf := if_t c13_0 hf
    refine lv_tableIn (off := 31) (tgt := 44) hx hb dX5_port_13 (by rw [c13_0]; decide) (by rw [c13_0]; decide) (by rw [c13_0]; decide) (by decide) ?_
    refine lv_aload_n hx hb dX5_port_44 rfl (lv_at hl 1 rfl) ?_
    refine ld_f S iX5 hK hP 0 1 (.ref (A 11)) (gX5_0 _ _ _ _ _ _ _ _ _ _) rfl (by decide) k21 rfl rfl dX5_port_45 ?_
    refine ld_f S iX3 hK hP 11 6 (.ref (A 17)) (gX5_11 _ _ _ _ _ _ _ _ _ _) rfl (by decide) k198 rfl rfl dX5_port_48 ?_
    refine lv_iload hx hb dX5_port_51 (lv_at hl 0 rfl) ?_
    obtain ⟨c53, hf⟩ := ck_t hf
    refine va_zald (f := ct 6) hx hb hK hP 17 1 (gX5_17 _ _ _ _ _ _ _ _ _ _) rfl (inb_in c53) dX5_port_53 ?_
    refine lv_if_eq (tgt := 61) hx hb dX5_port_54 (by decide) (fun c54 => ?_) (fun c54 => ?_)
    · have hf := if_t c54 hf
      refine lv_iconst (v := 0) hx hb dX5_port_61 (by decide) ?_
      cases hf
    · have hf := if_f c54 hf
      refine lv_iconst (v := 1) hx hb dX5_port_57 (by decide) ?_
      refine lv_goto (tgt := 62) hx hb dX5_port_58 (by decide) ?_
      cases hf
  have hf := if_f c13_0 hf
  by_cases c13_1 : x3 = 1
  · have hf := if_t c13_1 hf
    refine lv_tableIn (off := 50) (tgt := 63) hx hb dX5_port_13 (by rw [c13_1]; decide) (by rw [c13_1]; decide) (by rw [c13_1]; decide) (by decide) ?_
    refine lv_aload_n hx hb dX5_port_63 rfl (lv_at hl 1 rfl) ?_
    refine ld_f S iX5 hK hP 0 1 (.ref (A 11)) (gX5_0 _ _ _ _ _ _ _ _ _ _) rfl (by decide) k21 rfl rfl dX5_port_64 ?_
    refine ld_f S iX3 hK hP 11 7 (.ref (A 18)) (gX5_11 _ _ _ _ _ _ _ _ _ _) rfl (by decide) k202 rfl rfl dX5_port_67 ?_
    refine lv_iload hx hb dX5_port_70 (lv_at hl 0 rfl) ?_
    obtain ⟨c72, hf⟩ := ck_t hf
    refine va_iald (f := ct 7) hx hb hK hP 18 0 (gX5_18 _ _ _ _ _ _ _ _ _ _) rfl (inb_in c72) dX5_port_72 ?_
    cases hf
  have hf := if_f c13_1 hf
  by_cases c13_2 : x3 = 2
  · have hf := if_t c13_2 hf
    refine lv_tableIn (off := 61) (tgt := 74) hx hb dX5_port_13 (by rw [c13_2]; decide) (by rw [c13_2]; decide) (by rw [c13_2]; decide) (by decide) ?_
    refine lv_aload_n hx hb dX5_port_74 rfl (lv_at hl 1 rfl) ?_
    refine ld_f S iX5 hK hP 0 1 (.ref (A 11)) (gX5_0 _ _ _ _ _ _ _ _ _ _) rfl (by decide) k21 rfl rfl dX5_port_75 ?_
    refine lv_iload hx hb dX5_port_78 (lv_at hl 0 rfl) ?_
    obtain ⟨q80, h80, hf⟩ := bd_t hf
    refine cl_i (va_runV (As := [.int q7]) (rest := []) S (mX3_isShut l D cI cZ (aX5_X3_2_1 A) ct cw q7 H.size q80 h80) (cwV 1 hts gX5_port_X3_isShut rfl rfl rfl (by decide +kernel) ⟨Nat.le_of_ble_eq_true rfl, Nat.le_of_ble_eq_true rfl⟩) (mP_V (ci := 3) (cutX5_X3_2_1 _ _ _ _ _ _ _ _ _ _ st0 st0) hP hD hK hG rfl (gX3_0 _ _ _ _ _)) rfl rfl hl.1 rfl (lv_room (Nat.le_of_ble_eq_true rfl)) dX5_port_80 ⟨Nat.le_of_ble_eq_true rfl, Nat.le_of_ble_eq_true rfl⟩) (cutX5_X3_2_1 _ _ _ _ _ _ _ _ _ _ _ _) hP hD hS hA (fun H locs hP hD hS => ?_)
    refine lv_if_eq (tgt := 90) hx hb dX5_port_83 (by decide) (fun c83 => ?_) (fun c83 => ?_)
    · have hf := if_t c83 hf
      refine lv_iconst (v := 0) hx hb dX5_port_90 (by decide) ?_
      cases hf
    · have hf := if_f c83 hf
      refine lv_iconst (v := 1) hx hb dX5_port_86 (by decide) ?_
      refine lv_goto (tgt := 91) hx hb dX5_port_87 (by decide) ?_
      cases hf
  have hf := if_f c13_2 hf
  by_cases c13_3 : x3 = 3
  · have hf := if_t c13_3 hf
    refine lv_tableIn (off := 79) (tgt := 92) hx hb dX5_port_13 (by rw [c13_3]; decide) (by rw [c13_3]; decide) (by rw [c13_3]; decide) (by decide) ?_
    refine lv_aload_n hx hb dX5_port_92 rfl (lv_at hl 1 rfl) ?_
    refine ld_f S iX5 hK hP 0 6 (.ref (A 1)) (gX5_0 _ _ _ _ _ _ _ _ _ _) rfl (by decide) k49 rfl rfl dX5_port_93 ?_
    refine lv_iload hx hb dX5_port_96 (lv_at hl 0 rfl) ?_
    obtain ⟨c98, hf⟩ := ck_t hf
    refine va_iald (f := cs 6) hx hb hK hP 1 0 (gX5_1 _ _ _ _ _ _ _ _ _ _) rfl (inb_in c98) dX5_port_98 ?_
    cases hf
  have hf := if_f c13_3 hf
  refine lv_tableOut (tgt := 100) hx hb dX5_port_13 (sw_out 0 3 (fun j h1 h2 => ?_)) (by decide) ?_
  · rcases (show j = 0 ∨ j = 1 ∨ j = 2 ∨ j = 3 by omega) with e9 | e9 | e9 | e9 <;> subst e9
    · exact fun e => c13_0 (e.trans (by decide))
    · exact fun e => c13_1 (e.trans (by decide))
    · exact fun e => c13_2 (e.trans (by decide))
    · exact fun e => c13_3 (e.trans (by decide))
  cases hf
  exact hT _ ls H locs _ 67 205 "a port has nothing of that kind" (by decide) (by decide +kernel) xc2 xi2 (fun w h => hts w (xw2 w h)) dX5_port_100 dX5_port_103 dX5_port_104 dX5_port_106 dX5_port_109 hl.1 (Nat.le_of_ble_eq_true rfl) hP hD hS
set_option maxHeartbeats 4000000 in
set_option maxRecDepth 100000 in
theorem xX5_table (l : Launch) (hfl : l.stackTraces = false) (D : va_G) (cI cZ : ClassId) (A : Nat → Nat)  (cs : St) (cw : St) (ct : St) (cu : St) (cl : St) (cb : St) (cp : St) (x1 : Int32) (x2 : Int32) (x3 : Int32) (sz : Nat) (res : Nat) (hf : fX5_table cb x1 x2 x3 = some (.inr res)) : vx_Met l yX5_table wsX5_table ({ frames := 7, cells := 1, slots := 6, locals := 116 }) (xP D (tysX cI cZ) [.ref (A 0), .int x1, .int x2, .int x3] (wX5 cI cZ A cs cw ct cu cl cb cp) sz) (xQi (va_A (wX5 cI cZ A cs cw ct cu cl cb cp) sz)) (xC D (wX5 cI cZ A cs cw ct cu cl cb cp) res sz) 1 6 (va_A (wX5 cI cZ A cs cw ct cu cl cb cp) sz) := by
  refine mkX (cc := cX5_table) (maxL := 4) hfl (by decide +kernel) rfl rfl (Nat.le_of_ble_eq_true rfl) (by decide) ?_
  intro p e s m args below meth c A0 Q S hK hG hX hZ hA hT hTW hO
  obtain ⟨hx, hb, hml, hown, hts⟩ := id S
  have k38 := hts (.fieldLink RX5 38 "SwitchFloor" "tables" "LSwitchFloor$Tables;") (by decide +kernel)
  have iX5 : ∀ w ∈ wsX50, w ∈ wsX5_table := by decide +kernel
  intro H locs hP hD hS ls hl
  have hl : lv_has ls 4 [(0, .ref (A 0)), (1, .int x1), (2, .int x2), (3, .int x3)] := hl
  unfold fX5_table at hf
  refine lv_iload_n hx hb dX5_table_0 rfl (lv_at hl 1 rfl) ?_
  rcases bx_r hf with h1x | ⟨q1, h1, hf⟩
  · exact clx_v (k := res) (vx_runS (As := [.int x1]) (rest := []) S (xX5_needSwitch l hfl D cI cZ x1 H.size res h1x) (va_cwS 1 hts gX5_table_X5_needSwitch rfl rfl rfl (by decide +kernel) ⟨Nat.le_of_ble_eq_true rfl, Nat.le_of_ble_eq_true rfl⟩) (xP_S (Cut.nil _) hP hD hS hA hK hG hX hZ) rfl rfl hl.1 rfl (lv_room (Nat.le_of_ble_eq_true rfl)) dX5_table_1 ⟨Nat.le_of_ble_eq_true rfl, Nat.le_of_ble_eq_true rfl⟩) (Cut.nil _) rfl hP hD hS hA (fun E ce q9 H locs hE hce hcv hcl hP hD hS => hO _ ls H locs _ E ce q9 hE hce hcv hcl hP hD hS)
  refine cl_v (va_runS (As := [.int x1]) (rest := []) S (mX5_needSwitch l D cI cZ x1 H.size q1 h1) (va_cwS 1 hts gX5_table_X5_needSwitch rfl rfl rfl (by decide +kernel) ⟨Nat.le_of_ble_eq_true rfl, Nat.le_of_ble_eq_true rfl⟩) (mP_S (Cut.nil _) hP hD hK hG) rfl rfl hl.1 rfl (lv_room (Nat.le_of_ble_eq_true rfl)) dX5_table_1 ⟨Nat.le_of_ble_eq_true rfl, Nat.le_of_ble_eq_true rfl⟩) (Cut.nil _) hP hD hS hA (fun H locs hP hD hS => ?_)
  refine lv_iload_n hx hb dX5_table_4 rfl (lv_at hl 2 rfl) ?_
  rcases bx_r hf with h5x | ⟨q5, h5, hf⟩
  · exact clx_v (k := res) (vx_runS (As := [.int x2]) (rest := []) S (xX5_needLane l hfl D cI cZ x2 H.size res h5x) (va_cwS 1 hts gX5_table_X5_needLane rfl rfl rfl (by decide +kernel) ⟨Nat.le_of_ble_eq_true rfl, Nat.le_of_ble_eq_true rfl⟩) (xP_S (Cut.nil _) hP hD hS hA hK hG hX hZ) rfl rfl hl.1 rfl (lv_room (Nat.le_of_ble_eq_true rfl)) dX5_table_5 ⟨Nat.le_of_ble_eq_true rfl, Nat.le_of_ble_eq_true rfl⟩) (Cut.nil _) rfl hP hD hS hA (fun E ce q9 H locs hE hce hcv hcl hP hD hS => hO _ ls H locs _ E ce q9 hE hce hcv hcl hP hD hS)
  refine cl_v (va_runS (As := [.int x2]) (rest := []) S (mX5_needLane l D cI cZ x2 H.size q5 h5) (va_cwS 1 hts gX5_table_X5_needLane rfl rfl rfl (by decide +kernel) ⟨Nat.le_of_ble_eq_true rfl, Nat.le_of_ble_eq_true rfl⟩) (mP_S (Cut.nil _) hP hD hK hG) rfl rfl hl.1 rfl (lv_room (Nat.le_of_ble_eq_true rfl)) dX5_table_5 ⟨Nat.le_of_ble_eq_true rfl, Nat.le_of_ble_eq_true rfl⟩) (Cut.nil _) hP hD hS hA (fun H locs hP hD hS => ?_)
  refine lv_iload_n hx hb dX5_table_8 rfl (lv_at hl 3 rfl) ?_
  rcases bx_r hf with h9x | ⟨q9, h9, hf⟩
  · exact clx_v (k := res) (vx_runS (As := [.int x3]) (rest := []) S (xX5_needHouse l hfl D cI cZ x3 H.size res h9x) (va_cwS 1 hts gX5_table_X5_needHouse rfl rfl rfl (by decide +kernel) ⟨Nat.le_of_ble_eq_true rfl, Nat.le_of_ble_eq_true rfl⟩) (xP_S (Cut.nil _) hP hD hS hA hK hG hX hZ) rfl rfl hl.1 rfl (lv_room (Nat.le_of_ble_eq_true rfl)) dX5_table_9 ⟨Nat.le_of_ble_eq_true rfl, Nat.le_of_ble_eq_true rfl⟩) (Cut.nil _) rfl hP hD hS hA (fun E ce q9 H locs hE hce hcv hcl hP hD hS => hO _ ls H locs _ E ce q9 hE hce hcv hcl hP hD hS)
  refine cl_v (va_runS (As := [.int x3]) (rest := []) S (mX5_needHouse l D cI cZ x3 H.size q9 h9) (va_cwS 1 hts gX5_table_X5_needHouse rfl rfl rfl (by decide +kernel) ⟨Nat.le_of_ble_eq_true rfl, Nat.le_of_ble_eq_true rfl⟩) (mP_S (Cut.nil _) hP hD hK hG) rfl rfl hl.1 rfl (lv_room (Nat.le_of_ble_eq_true rfl)) dX5_table_9 ⟨Nat.le_of_ble_eq_true rfl, Nat.le_of_ble_eq_true rfl⟩) (Cut.nil _) hP hD hS hA (fun H locs hP hD hS => ?_)
  refine lv_aload_n hx hb dX5_table_12 rfl (lv_at hl 0 rfl) ?_
  refine ld_f S iX5 hK hP 0 4 (.ref (A 44)) (gX5_0 _ _ _ _ _ _ _ _ _ _) rfl (by decide) k38 rfl rfl dX5_table_13 ?_
  refine lv_iload_n hx hb dX5_table_16 rfl (lv_at hl 1 rfl) ?_
  refine lv_iload_n hx hb dX5_table_17 rfl (lv_at hl 2 rfl) ?_
  refine lv_iload_n hx hb dX5_table_18 rfl (lv_at hl 3 rfl) ?_
  obtain ⟨q19, h19, hf⟩ := bd_t hf
  refine cl_i (va_runV (As := [.int x1, .int x2, .int x3]) (rest := []) S (mX2_portFor l D cI cZ (aX5_X2_5 A) cb x1 x2 x3 H.size q19 h19) (cwV 3 hts gX5_table_X2_portFor rfl rfl rfl (by decide +kernel) ⟨Nat.le_of_ble_eq_true rfl, Nat.le_of_ble_eq_true rfl⟩) (mP_V (ci := 2) (cutX5_X2_5 _ _ _ _ _ _ _ _ _ _ st0) hP hD hK hG rfl (gX2_0 _ _ _ _)) rfl rfl hl.1 rfl (lv_room (Nat.le_of_ble_eq_true rfl)) dX5_table_19 ⟨Nat.le_of_ble_eq_true rfl, Nat.le_of_ble_eq_true rfl⟩) (cutX5_X2_5 _ _ _ _ _ _ _ _ _ _ _) hP hD hS hA (fun H locs hP hD hS => ?_)
  cases hf
set_option maxHeartbeats 4000000 in
set_option maxRecDepth 100000 in
theorem xX5_got (l : Launch) (hfl : l.stackTraces = false) (D : va_G) (cI cZ : ClassId) (A : Nat → Nat)  (cs : St) (cw : St) (ct : St) (cu : St) (cl : St) (cb : St) (cp : St) (x1 : Int32) (x2 : Int32) (sz : Nat) (res : Nat) (hf : fX5_got cs x1 x2 = some (.inr res)) : vx_Met l yX5_got wsX5_got ({ frames := 7, cells := 1, slots := 6, locals := 116 }) (xP D (tysX cI cZ) [.ref (A 0), .int x1, .int x2] (wX5 cI cZ A cs cw ct cu cl cb cp) sz) (xQi (va_A (wX5 cI cZ A cs cw ct cu cl cb cp) sz)) (xC D (wX5 cI cZ A cs cw ct cu cl cb cp) res sz) 1 6 (va_A (wX5 cI cZ A cs cw ct cu cl cb cp) sz) := by
  refine mkX (cc := cX5_got) (maxL := 3) hfl (by decide +kernel) rfl rfl (Nat.le_of_ble_eq_true rfl) (by decide) ?_
  intro p e s m args below meth c A0 Q S hK hG hX hZ hA hT hTW hO
  obtain ⟨hx, hb, hml, hown, hts⟩ := id S
  have k53 := hts (.fieldLink RX5 53 "SwitchFloor" "gotFrames" "[I") (by decide +kernel)
  have iX5 : ∀ w ∈ wsX50, w ∈ wsX5_got := by decide +kernel
  have k56 := hts (.fieldLink RX5 56 "SwitchFloor" "overheardFrames" "[I") (by decide +kernel)
  intro H locs hP hD hS ls hl
  have hl : lv_has ls 3 [(0, .ref (A 0)), (1, .int x1), (2, .int x2)] := hl
  unfold fX5_got at hf
  refine lv_iload_n hx hb dX5_got_0 rfl (lv_at hl 1 rfl) ?_
  rcases bx_r hf with h1x | ⟨q1, h1, hf⟩
  · exact clx_v (k := res) (vx_runS (As := [.int x1]) (rest := []) S (xX5_needHouse l hfl D cI cZ x1 H.size res h1x) (va_cwS 1 hts gX5_got_X5_needHouse rfl rfl rfl (by decide +kernel) ⟨Nat.le_of_ble_eq_true rfl, Nat.le_of_ble_eq_true rfl⟩) (xP_S (Cut.nil _) hP hD hS hA hK hG hX hZ) rfl rfl hl.1 rfl (lv_room (Nat.le_of_ble_eq_true rfl)) dX5_got_1 ⟨Nat.le_of_ble_eq_true rfl, Nat.le_of_ble_eq_true rfl⟩) (Cut.nil _) rfl hP hD hS hA (fun E ce q9 H locs hE hce hcv hcl hP hD hS => hO _ ls H locs _ E ce q9 hE hce hcv hcl hP hD hS)
  refine cl_v (va_runS (As := [.int x1]) (rest := []) S (mX5_needHouse l D cI cZ x1 H.size q1 h1) (va_cwS 1 hts gX5_got_X5_needHouse rfl rfl rfl (by decide +kernel) ⟨Nat.le_of_ble_eq_true rfl, Nat.le_of_ble_eq_true rfl⟩) (mP_S (Cut.nil _) hP hD hK hG) rfl rfl hl.1 rfl (lv_room (Nat.le_of_ble_eq_true rfl)) dX5_got_1 ⟨Nat.le_of_ble_eq_true rfl, Nat.le_of_ble_eq_true rfl⟩) (Cut.nil _) hP hD hS hA (fun H locs hP hD hS => ?_)
  refine lv_iload_n hx hb dX5_got_4 rfl (lv_at hl 2 rfl) ?_
  refine lv_if_eq (tgt := 17) hx hb dX5_got_5 (by decide) (fun c5 => ?_) (fun c5 => ?_)
  · have hf := if_t c5 hf
    refine lv_aload_n hx hb dX5_got_17 rfl (lv_at hl 0 rfl) ?_
    refine ld_f S iX5 hK hP 0 7 (.ref (A 2)) (gX5_0 _ _ _ _ _ _ _ _ _ _) rfl (by decide) k53 rfl rfl dX5_got_18 ?_
    refine lv_iload_n hx hb dX5_got_21 rfl (lv_at hl 1 rfl) ?_
    obtain ⟨c22, hf⟩ := ck_t hf
    refine va_iald (f := cs 7) hx hb hK hP 2 0 (gX5_2 _ _ _ _ _ _ _ _ _ _) rfl (inb_in c22) dX5_got_22 ?_
    cases hf
  · have hf := if_f c5 hf
    refine lv_aload_n hx hb dX5_got_8 rfl (lv_at hl 0 rfl) ?_
    refine ld_f S iX5 hK hP 0 8 (.ref (A 3)) (gX5_0 _ _ _ _ _ _ _ _ _ _) rfl (by decide) k56 rfl rfl dX5_got_9 ?_
    refine lv_iload_n hx hb dX5_got_12 rfl (lv_at hl 1 rfl) ?_
    obtain ⟨c13, hf⟩ := ck_t hf
    refine va_iald (f := cs 8) hx hb hK hP 3 0 (gX5_3 _ _ _ _ _ _ _ _ _ _) rfl (inb_in c13) dX5_got_13 ?_
    refine lv_goto (tgt := 23) hx hb dX5_got_14 (by decide) ?_
    cases hf
set_option maxHeartbeats 4000000 in
set_option maxRecDepth 100000 in
theorem xX5_found (l : Launch) (hfl : l.stackTraces = false) (D : va_G) (cI cZ : ClassId) (A : Nat → Nat)  (cs : St) (cw : St) (ct : St) (cu : St) (cl : St) (cb : St) (cp : St) (x1 : Int32) (sz : Nat) (res : Nat) (hf : fX5_found cw ct x1 = some (.inr res)) : vx_Met l yX5_found wsX5_found ({ frames := 7, cells := 1, slots := 6, locals := 116 }) (xP D (tysX cI cZ) [.ref (A 0), .int x1] (wX5 cI cZ A cs cw ct cu cl cb cp) sz) (xQi (va_A (wX5 cI cZ A cs cw ct cu cl cb cp) sz)) (xC D (wX5 cI cZ A cs cw ct cu cl cb cp) res sz) 1 6 (va_A (wX5 cI cZ A cs cw ct cu cl cb cp) sz) := by
  refine mkX (cc := cX5_found) (maxL := 4) hfl (by decide +kernel) rfl rfl (Nat.le_of_ble_eq_true rfl) (by decide) ?_
  intro p e s m args below meth c A0 Q S hK hG hX hZ hA hT hTW hO
  obtain ⟨hx, hb, hml, hown, hts⟩ := id S
  have k21 := hts (.fieldLink RX5 21 "SwitchFloor" "tree" "LSwitchFloor$Tree;") (by decide +kernel)
  have iX5 : ∀ w ∈ wsX50, w ∈ wsX5_found := by decide +kernel
  have k228 := hts (.fieldLink RX5 228 "SwitchFloor$Tree" "way" "[I") (by decide +kernel)
  have iX3 : ∀ w ∈ wsX30, w ∈ wsX5_found := by decide +kernel
  have k12 := hts (.fieldLink RX5 12 "SwitchFloor" "wiring" "LSwitchFloor$Wiring;") (by decide +kernel)
  have B55 : ∀ (ct : St) (x2 : Int32), fX5_found_J55 cw ct x2 = some (.inr res) → Bk p l e ({ frames := 7, cells := 1, slots := 6, locals := 116 }) s m args below meth c Q A0 D 4 0 0 (wX5 cI cZ A cs cw ct cu cl cb cp) [(0, .ref (A 0)), (2, .int x2)] 55 [] := by
    intro ct x2 hf
    unfold fX5_found_J55 at hf
    intro H locs hP hD hS ls hl
    refine lv_sipush (v := 1000) hx hb dX5_found_55 (by decide) ?_
    refine lv_iload_n hx hb dX5_found_58 rfl (lv_at hl 1 rfl) ?_
    refine lv_imul hx hb dX5_found_59 ?_
    refine lv_aload_n hx hb dX5_found_60 rfl (lv_at hl 0 rfl) ?_
    refine ld_f S iX5 hK hP 0 1 (.ref (A 11)) (gX5_0 _ _ _ _ _ _ _ _ _ _) rfl (by decide) k21 rfl rfl dX5_found_61 ?_
    refine ld_f S iX3 hK hP 11 15 (.ref (A 25)) (gX5_11 _ _ _ _ _ _ _ _ _ _) rfl (by decide) k228 rfl rfl dX5_found_64 ?_
    refine lv_iload_n hx hb dX5_found_67 rfl (lv_at hl 1 rfl) ?_
    obtain ⟨c68, hf⟩ := ck_t hf
    refine va_iald (f := ct 15) hx hb hK hP 25 0 (gX5_25 _ _ _ _ _ _ _ _ _ _) rfl (inb_in c68) dX5_found_68 ?_
    refine lv_iadd hx hb dX5_found_69 ?_
    cases hf
  have B16 : ∀ (ct : St) (x2 : Int32) (x3 : Int32), fX5_found_L16 cw ct x2 x3 = some (.inr res) → Bk p l e ({ frames := 7, cells := 1, slots := 6, locals := 116 }) s m args below meth c Q A0 D 4 0 0 (wX5 cI cZ A cs cw ct cu cl cb cp) [(0, .ref (A 0)), (2, .int x2), (3, .int x3)] 16 [] := by
    intro ct x2 x3 hf
    refine loop_ind (step := (fun k a => fX5_found_S16 k cw ct (a.1) (a.2))) (fun a => Bk p l e ({ frames := 7, cells := 1, slots := 6, locals := 116 }) s m args below meth c Q A0 D 4 0 0 (wX5 cI cZ A cs cw ct cu cl cb cp) [(0, .ref (A 0)), (2, .int (a.1)), (3, .int (a.2))] 16 []) ?_ _ _ hf
    clear hf
    intro k16 hk16 a hf
    obtain ⟨x2_, x3_⟩ := a
    clear x2 x3
    obtain ⟨x2, e_⟩ : ∃ z, z = x2_ := ⟨_, rfl⟩
    subst e_
    obtain ⟨x3, e_⟩ : ∃ z, z = x3_ := ⟨_, rfl⟩
    subst e_
    have hf : fX5_found_S16 k16 cw ct x2 x3 = some (.inr res) := hf
    show Bk p l e ({ frames := 7, cells := 1, slots := 6, locals := 116 }) s m args below meth c Q A0 D 4 0 0 (wX5 cI cZ A cs cw ct cu cl cb cp) [(0, .ref (A 0)), (2, .int x2), (3, .int x3)] 16 []
    unfold fX5_found_S16 at hf
    intro H locs hP hD hS ls hl
    refine lv_iload_n hx hb dX5_found_16 rfl (lv_at hl 2 rfl) ?_
    refine lv_bipush (v := 6) hx hb dX5_found_17 (by decide) ?_
    refine lv_icmp_ge (tgt := 55) hx hb dX5_found_19 (by decide) (fun c19 => ?_) (fun c19 => ?_)
    · have hf := if_t c19 hf
      exact B55 _ _ hf H locs hP hD hS ls (lv_sub hl [0, 1] rfl)
    · have hf := if_f c19 hf
      refine lv_aload_n hx hb dX5_found_22 rfl (lv_at hl 0 rfl) ?_
      refine ld_f S iX5 hK hP 0 1 (.ref (A 11)) (gX5_0 _ _ _ _ _ _ _ _ _ _) rfl (by decide) k21 rfl rfl dX5_found_23 ?_
      refine ld_f S iX3 hK hP 11 15 (.ref (A 25)) (gX5_11 _ _ _ _ _ _ _ _ _ _) rfl (by decide) k228 rfl rfl dX5_found_26 ?_
      refine lv_iload_n hx hb dX5_found_29 rfl (lv_at hl 2 rfl) ?_
      obtain ⟨c30, hf⟩ := ck_t hf
      refine va_iald (f := ct 15) hx hb hK hP 25 0 (gX5_25 _ _ _ _ _ _ _ _ _ _) rfl (inb_in c30) dX5_found_30 ?_
      refine lv_iconst (v := (-1)) hx hb dX5_found_31 (by decide) ?_
      refine lv_icmp_eq (tgt := 49) hx hb dX5_found_32 (by decide) (fun c32 => ?_) (fun c32 => ?_)
      · have hf := if_t c32 hf
        refine lv_iinc (v := x3 + 1) (lv' := [(3, .int (x3 + 1)), (0, .ref (A 0)), (2, .int x2)]) hx hb dX5_found_49 hl (k := 2) rfl rfl (by decide) rfl (fun ls hl => ?_)
        refine lv_goto (tgt := 16) hx hb dX5_found_52 (by decide) ?_
        exact hk16 _ hf H locs hP hD hS ls (lv_sub hl [1, 2, 0] rfl)
      · have hf := if_f c32 hf
        refine lv_aload_n hx hb dX5_found_35 rfl (lv_at hl 0 rfl) ?_
        refine ld_f S iX5 hK hP 0 0 (.ref (A 4)) (gX5_0 _ _ _ _ _ _ _ _ _ _) rfl (by decide) k12 rfl rfl dX5_found_36 ?_
        refine lv_iload_n hx hb dX5_found_39 rfl (lv_at hl 2 rfl) ?_
        refine lv_iload_n hx hb dX5_found_40 rfl (lv_at hl 1 rfl) ?_
        obtain ⟨q41, h41, hf⟩ := bd_t hf
        refine cl_i (va_runV (As := [.int x3, .int x2]) (rest := []) S (mX4_isBetterName l D cI cZ (aX5_X4_1 A) cw x3 x2 H.size q41 h41) (cwV 2 hts gX5_found_X4_isBetterName rfl rfl rfl (by decide +kernel) ⟨Nat.le_of_ble_eq_true rfl, Nat.le_of_ble_eq_true rfl⟩) (mP_V (ci := 4) (cutX5_X4_1 _ _ _ _ _ _ _ _ _ _ st0) hP hD hK hG rfl (gX4_0 _ _ _ _)) rfl rfl hl.1 rfl (lv_room (Nat.le_of_ble_eq_true rfl)) dX5_found_41 ⟨Nat.le_of_ble_eq_true rfl, Nat.le_of_ble_eq_true rfl⟩) (cutX5_X4_1 _ _ _ _ _ _ _ _ _ _ _) hP hD hS hA (fun H locs hP hD hS => ?_)
        refine lv_if_eq (tgt := 49) hx hb dX5_found_44 (by decide) (fun c44 => ?_) (fun c44 => ?_)
        · have hf := if_t c44 hf
          refine lv_iinc (v := x3 + 1) (lv' := [(3, .int (x3 + 1)), (0, .ref (A 0)), (2, .int x2)]) hx hb dX5_found_49 hl (k := 2) rfl rfl (by decide) rfl (fun ls hl => ?_)
          refine lv_goto (tgt := 16) hx hb dX5_found_52 (by decide) ?_
          exact hk16 _ hf H locs hP hD hS ls (lv_sub hl [1, 2, 0] rfl)
        · have hf := if_f c44 hf
          refine lv_iload_n hx hb dX5_found_47 rfl (lv_at hl 2 rfl) ?_
          refine lv_istore_n (lv' := [(2, .int x3), (0, .ref (A 0)), (3, .int x3)]) hx hb dX5_found_48 rfl hl (by decide) rfl (fun ls hl => ?_)
          refine lv_iinc (v := x3 + 1) (lv' := [(3, .int (x3 + 1)), (2, .int x3), (0, .ref (A 0))]) hx hb dX5_found_49 hl (k := 2) rfl rfl (by decide) rfl (fun ls hl => ?_)
          refine lv_goto (tgt := 16) hx hb dX5_found_52 (by decide) ?_
          exact hk16 _ hf H locs hP hD hS ls (lv_sub hl [2, 1, 0] rfl)
  intro H locs hP hD hS ls hl
  have hl : lv_has ls 4 [(0, .ref (A 0)), (1, .int x1)] := hl
  unfold fX5_found at hf
  refine lv_iload_n hx hb dX5_found_0 rfl (lv_at hl 1 rfl) ?_
  rcases bx_r hf with h1x | ⟨q1, h1, hf⟩
  · exact clx_v (k := res) (vx_runS (As := [.int x1]) (rest := []) S (xX5_needSwitch l hfl D cI cZ x1 H.size res h1x) (va_cwS 1 hts gX5_found_X5_needSwitch rfl rfl rfl (by decide +kernel) ⟨Nat.le_of_ble_eq_true rfl, Nat.le_of_ble_eq_true rfl⟩) (xP_S (Cut.nil _) hP hD hS hA hK hG hX hZ) rfl rfl hl.1 rfl (lv_room (Nat.le_of_ble_eq_true rfl)) dX5_found_1 ⟨Nat.le_of_ble_eq_true rfl, Nat.le_of_ble_eq_true rfl⟩) (Cut.nil _) rfl hP hD hS hA (fun E ce q9 H locs hE hce hcv hcl hP hD hS => hO _ ls H locs _ E ce q9 hE hce hcv hcl hP hD hS)
  refine cl_v (va_runS (As := [.int x1]) (rest := []) S (mX5_needSwitch l D cI cZ x1 H.size q1 h1) (va_cwS 1 hts gX5_found_X5_needSwitch rfl rfl rfl (by decide +kernel) ⟨Nat.le_of_ble_eq_true rfl, Nat.le_of_ble_eq_true rfl⟩) (mP_S (Cut.nil _) hP hD hK hG) rfl rfl hl.1 rfl (lv_room (Nat.le_of_ble_eq_true rfl)) dX5_found_1 ⟨Nat.le_of_ble_eq_true rfl, Nat.le_of_ble_eq_true rfl⟩) (Cut.nil _) hP hD hS hA (fun H locs hP hD hS => ?_)
  refine lv_aload_n hx hb dX5_found_4 rfl (lv_at hl 0 rfl) ?_
  refine ld_f S iX5 hK hP 0 1 (.ref (A 11)) (gX5_0 _ _ _ _ _ _ _ _ _ _) rfl (by decide) k21 rfl rfl dX5_found_5 ?_
  refine lv_iload_n hx hb dX5_found_8 rfl (lv_at hl 1 rfl) ?_
  obtain ⟨q9, h9, hf⟩ := bd_t hf
  refine cl_v (va_runV (As := [.int x1]) (rest := []) S (mX3_measureWays l D cI cZ (aX5_X3_2_1 A) ct cw x1 H.size q9 h9) (cwV 1 hts gX5_found_X3_measureWays rfl rfl rfl (by decide +kernel) ⟨Nat.le_of_ble_eq_true rfl, Nat.le_of_ble_eq_true rfl⟩) (mP_V (ci := 3) (cutX5_X3_2_1 _ _ _ _ _ _ _ _ _ _ st0 st0) hP hD hK hG rfl (gX3_0 _ _ _ _ _)) rfl rfl hl.1 rfl (lv_room (Nat.le_of_ble_eq_true rfl)) dX5_found_9 ⟨Nat.le_of_ble_eq_true rfl, Nat.le_of_ble_eq_true rfl⟩) (cutX5_X3_2_1 _ _ _ _ _ _ _ _ _ _ _ _) hP hD hS hA (fun H locs hP hD hS => ?_)
  refine lv_iload_n hx hb dX5_found_12 rfl (lv_at hl 1 rfl) ?_
  refine lv_istore_n (lv' := [(2, .int x1), (0, .ref (A 0)), (1, .int x1)]) hx hb dX5_found_13 rfl hl (by decide) rfl (fun ls hl => ?_)
  refine lv_iconst (v := 0) hx hb dX5_found_14 (by decide) ?_
  refine lv_istore_n (lv' := [(3, .int 0), (2, .int x1), (0, .ref (A 0)), (1, .int x1)]) hx hb dX5_found_15 rfl hl (by decide) rfl (fun ls hl => ?_)
  exact B16 _ _ _ hf H locs hP hD hS ls (lv_sub hl [2, 1, 0] rfl)
set_option maxHeartbeats 4000000 in
set_option maxRecDepth 100000 in
theorem xX5_walk (l : Launch) (hfl : l.stackTraces = false) (D : va_G) (cI cZ : ClassId) (A : Nat → Nat)  (cs : St) (cw : St) (ct : St) (cu : St) (cl : St) (cb : St) (cp : St) (x1 : Int32) (x2 : Int32) (sz : Nat) (res : Nat) (hf : fX5_walk cw ct cl cb x1 x2 = some (.inr res)) : vx_Met l yX5_walk wsX5_walk ({ frames := 7, cells := 1, slots := 6, locals := 116 }) (xP D (tysX cI cZ) [.ref (A 0), .int x1, .int x2] (wX5 cI cZ A cs cw ct cu cl cb cp) sz) (xQi (va_A (wX5 cI cZ A cs cw ct cu cl cb cp) sz)) (xC D (wX5 cI cZ A cs cw ct cu cl cb cp) res sz) 1 6 (va_A (wX5 cI cZ A cs cw ct cu cl cb cp) sz) := by
  refine mkX (cc := cX5_walk) (maxL := 8) hfl (by decide +kernel) rfl rfl (Nat.le_of_ble_eq_true rfl) (by decide) ?_
  intro p e s m args below meth c A0 Q S hK hG hX hZ hA hT hTW hO
  obtain ⟨hx, hb, hml, hown, hts⟩ := id S
  have k12 := hts (.fieldLink RX5 12 "SwitchFloor" "wiring" "LSwitchFloor$Wiring;") (by decide +kernel)
  have iX5 : ∀ w ∈ wsX50, w ∈ wsX5_walk := by decide +kernel
  have k116 := hts (.fieldLink RX5 116 "SwitchFloor$Wiring" "spotOfHouse" "[I") (by decide +kernel)
  have iX4 : ∀ w ∈ wsX40, w ∈ wsX5_walk := by decide +kernel
  have xw3 : ∀ w ∈ (vx_atS RX5 (xIc 3) (xn 3) xNames).filter goodWord, w ∈ wsX5_walk := by decide +kernel
  have xc3 := hts (.classLink RX5 86 "java/lang/IllegalStateException") (by decide +kernel)
  have xi3 := hts (.initialized "java/lang/IllegalStateException") (by decide +kernel)
  have k99 := hts (.fieldLink RX5 99 "SwitchFloor$Wiring" "peer" "[I") (by decide +kernel)
  have k31 := hts (.fieldLink RX5 31 "SwitchFloor" "lanes" "LSwitchFloor$Lanes;") (by decide +kernel)
  have k245 := hts (.fieldLink RX5 245 "SwitchFloor$Wiring" "house" "[I") (by decide +kernel)
  have xw2 : ∀ w ∈ (vx_atS RX5 (xIc 2) (xn 2) xNames).filter goodWord, w ∈ wsX5_walk := by decide +kernel
  have xc2 := hts (.classLink RX5 67 "java/lang/IllegalArgumentException") (by decide +kernel)
  have xi2 := hts (.initialized "java/lang/IllegalArgumentException") (by decide +kernel)
  have B134 : ∀ (x2 : Int32) (x5 : Int32) (x7 : Int32), fX5_walk_J134 cw ct cl cb x2 x5 x7 = some (.inr res) → Bk p l e ({ frames := 7, cells := 1, slots := 6, locals := 116 }) s m args below meth c Q A0 D 8 0 0 (wX5 cI cZ A cs cw ct cu cl cb cp) [(0, .ref (A 0)), (2, .int x2), (5, .int x5), (7, .int x7)] 134 [] := by
    intro x2 x5 x7 hf
    unfold fX5_walk_J134 at hf
    intro H locs hP hD hS ls hl
    refine lv_aload_n hx hb dX5_walk_134 rfl (lv_at hl 0 rfl) ?_
    refine ld_f S iX5 hK hP 0 0 (.ref (A 4)) (gX5_0 _ _ _ _ _ _ _ _ _ _) rfl (by decide) k12 rfl rfl dX5_walk_135 ?_
    refine ld_f S iX4 hK hP 4 2 (.ref (A 7)) (gX5_4 _ _ _ _ _ _ _ _ _ _) rfl (by decide) k245 rfl rfl dX5_walk_138 ?_
    refine lv_iload hx hb dX5_walk_141 (lv_at hl 3 rfl) ?_
    obtain ⟨c143, hf⟩ := ck_t hf
    refine va_iald (f := cw 2) hx hb hK hP 7 0 (gX5_7 _ _ _ _ _ _ _ _ _ _) rfl (inb_in c143) dX5_walk_143 ?_
    refine lv_iload_n hx hb dX5_walk_144 rfl (lv_at hl 1 rfl) ?_
    refine lv_icmp_ne (tgt := 153) hx hb dX5_walk_145 (by decide) (fun c145 => ?_) (fun c145 => ?_)
    · have hf := if_f c145 hf
      refine lv_iconst (v := (-1)) hx hb dX5_walk_153 (by decide) ?_
      cases hf
    · have hf := if_t c145 hf
      refine lv_iload hx hb dX5_walk_148 (lv_at hl 2 rfl) ?_
      refine lv_goto (tgt := 154) hx hb dX5_walk_150 (by decide) ?_
      cases hf
  have B110 : ∀ (x2 : Int32) (x5 : Int32) (x6 : Int32) (y0 : Int32) (k75 : (Int32 × Int32 × Int32) → Option ((Int32) ⊕ Nat)) (hk75 : ∀ a75, k75 a75 = some (.inr res) → Bk p l e ({ frames := 7, cells := 1, slots := 6, locals := 116 }) s m args below meth c Q A0 D 8 0 0 (wX5 cI cZ A cs cw ct cu cl cb cp) [(0, .ref (A 0)), (2, .int x2), (3, .int (a75.1)), (4, .int (a75.2.1)), (5, .int (a75.2.2))] 75 []), fX5_walk_J110 k75 cw ct cl cb x2 x5 x6 y0 = some (.inr res) → Bk p l e ({ frames := 7, cells := 1, slots := 6, locals := 116 }) s m args below meth c Q A0 D 8 0 0 (wX5 cI cZ A cs cw ct cu cl cb cp) [(0, .ref (A 0)), (2, .int x2), (5, .int x5), (6, .int x6)] 110 [.int y0] := by
    intro x2 x5 x6 y0 k75 hk75 hf
    unfold fX5_walk_J110 at hf
    intro H locs hP hD hS ls hl
    refine lv_istore (lv' := [(7, .int y0), (0, .ref (A 0)), (2, .int x2), (5, .int x5), (6, .int x6)]) hx hb dX5_walk_110 hl (by decide) rfl (fun ls hl => ?_)
    refine lv_iload hx hb dX5_walk_112 (lv_at hl 0 rfl) ?_
    refine lv_iconst (v := (-1)) hx hb dX5_walk_114 (by decide) ?_
    refine lv_icmp_ne (tgt := 120) hx hb dX5_walk_115 (by decide) (fun c115 => ?_) (fun c115 => ?_)
    · have hf := if_f c115 hf
      refine lv_aload_n hx hb dX5_walk_120 rfl (lv_at hl 1 rfl) ?_
      refine ld_f S iX5 hK hP 0 0 (.ref (A 4)) (gX5_0 _ _ _ _ _ _ _ _ _ _) rfl (by decide) k12 rfl rfl dX5_walk_121 ?_
      refine ld_f S iX4 hK hP 4 0 (.ref (A 5)) (gX5_4 _ _ _ _ _ _ _ _ _ _) rfl (by decide) k99 rfl rfl dX5_walk_124 ?_
      refine lv_iload hx hb dX5_walk_127 (lv_at hl 0 rfl) ?_
      obtain ⟨c129, hf⟩ := ck_t hf
      refine va_iald (f := cw 0) hx hb hK hP 5 0 (gX5_5 _ _ _ _ _ _ _ _ _ _) rfl (inb_in c129) dX5_walk_129 ?_
      refine lv_iconst (v := (-1)) hx hb dX5_walk_130 (by decide) ?_
      refine lv_icmp_ne (tgt := 155) hx hb dX5_walk_131 (by decide) (fun c131 => ?_) (fun c131 => ?_)
      · have hf := if_f c131 hf
        refine lv_aload_n hx hb dX5_walk_155 rfl (lv_at hl 1 rfl) ?_
        refine ld_f S iX5 hK hP 0 3 (.ref (A 41)) (gX5_0 _ _ _ _ _ _ _ _ _ _) rfl (by decide) k31 rfl rfl dX5_walk_156 ?_
        refine lv_iload hx hb dX5_walk_159 (lv_at hl 0 rfl) ?_
        refine lv_iload hx hb dX5_walk_161 (lv_at hl 4 rfl) ?_
        obtain ⟨q163, h163, hf⟩ := bd_t hf
        refine cl_i (va_runV (As := [.int y0, .int x6]) (rest := []) S (mX0_tagOut l D cI cZ (aX5_X0_4 A) cl y0 x6 H.size q163 h163) (cwV 2 hts gX5_walk_X0_tagOut rfl rfl rfl (by decide +kernel) ⟨Nat.le_of_ble_eq_true rfl, Nat.le_of_ble_eq_true rfl⟩) (mP_V (ci := 0) (cutX5_X0_4 _ _ _ _ _ _ _ _ _ _ st0) hP hD hK hG rfl (gX0_0 _ _ _ _)) rfl rfl hl.1 rfl (lv_room (Nat.le_of_ble_eq_true rfl)) dX5_walk_163 ⟨Nat.le_of_ble_eq_true rfl, Nat.le_of_ble_eq_true rfl⟩) (cutX5_X0_4 _ _ _ _ _ _ _ _ _ _ _) hP hD hS hA (fun H locs hP hD hS => ?_)
        refine lv_istore (lv' := [(4, .int q163), (7, .int y0), (0, .ref (A 0)), (2, .int x2), (5, .int x5), (6, .int x6)]) hx hb dX5_walk_166 hl (by decide) rfl (fun ls hl => ?_)
        refine lv_aload_n hx hb dX5_walk_168 rfl (lv_at hl 2 rfl) ?_
        refine ld_f S iX5 hK hP 0 0 (.ref (A 4)) (gX5_0 _ _ _ _ _ _ _ _ _ _) rfl (by decide) k12 rfl rfl dX5_walk_169 ?_
        refine ld_f S iX4 hK hP 4 0 (.ref (A 5)) (gX5_4 _ _ _ _ _ _ _ _ _ _) rfl (by decide) k99 rfl rfl dX5_walk_172 ?_
        refine lv_iload hx hb dX5_walk_175 (lv_at hl 1 rfl) ?_
        obtain ⟨c177, hf⟩ := ck_t hf
        refine va_iald (f := cw 0) hx hb hK hP 5 0 (gX5_5 _ _ _ _ _ _ _ _ _ _) rfl (inb_in c177) dX5_walk_177 ?_
        refine lv_istore_n (lv' := [(3, .int (cw 0 y0.toNatClampNeg)), (4, .int q163), (7, .int y0), (0, .ref (A 0)), (2, .int x2), (5, .int x5), (6, .int x6)]) hx hb dX5_walk_178 rfl hl (by decide) rfl (fun ls hl => ?_)
        refine lv_iinc (v := x5 + 1) (lv' := [(5, .int (x5 + 1)), (3, .int (cw 0 y0.toNatClampNeg)), (4, .int q163), (7, .int y0), (0, .ref (A 0)), (2, .int x2), (6, .int x6)]) hx hb dX5_walk_179 hl (k := 5) rfl rfl (by decide) rfl (fun ls hl => ?_)
        refine lv_goto (tgt := 75) hx hb dX5_walk_182 (by decide) ?_
        exact hk75 _ hf H locs hP hD hS ls (lv_sub hl [4, 5, 1, 2, 0] rfl)
      · have hf := if_t c131 hf
        exact B134 _ _ _ hf H locs hP hD hS ls (lv_sub hl [1, 2, 3, 0] rfl)
    · have hf := if_t c115 hf
      refine lv_iconst (v := (-1)) hx hb dX5_walk_118 (by decide) ?_
      cases hf
  have B75 : ∀ (x2 : Int32) (x3 : Int32) (x4 : Int32) (x5 : Int32), fX5_walk_L75 cw ct cl cb x2 x3 x4 x5 = some (.inr res) → Bk p l e ({ frames := 7, cells := 1, slots := 6, locals := 116 }) s m args below meth c Q A0 D 8 0 0 (wX5 cI cZ A cs cw ct cu cl cb cp) [(0, .ref (A 0)), (2, .int x2), (3, .int x3), (4, .int x4), (5, .int x5)] 75 [] := by
    intro x2 x3 x4 x5 hf
    refine loop_ind (step := (fun k a => fX5_walk_S75 k cw ct cl cb x2 (a.1) (a.2.1) (a.2.2))) (fun a => Bk p l e ({ frames := 7, cells := 1, slots := 6, locals := 116 }) s m args below meth c Q A0 D 8 0 0 (wX5 cI cZ A cs cw ct cu cl cb cp) [(0, .ref (A 0)), (2, .int x2), (3, .int (a.1)), (4, .int (a.2.1)), (5, .int (a.2.2))] 75 []) ?_ _ _ hf
    clear hf
    intro k75 hk75 a hf
    obtain ⟨x3_, x4_, x5_⟩ := a
    clear x3 x4 x5
    obtain ⟨x3, e_⟩ : ∃ z, z = x3_ := ⟨_, rfl⟩
    subst e_
    obtain ⟨x4, e_⟩ : ∃ z, z = x4_ := ⟨_, rfl⟩
    subst e_
    obtain ⟨x5, e_⟩ : ∃ z, z = x5_ := ⟨_, rfl⟩
    subst e_
    have hf : fX5_walk_S75 k75 cw ct cl cb x2 x3 x4 x5 = some (.inr res) := hf
    show Bk p l e ({ frames := 7, cells := 1, slots := 6, locals := 116 }) s m args below meth c Q A0 D 8 0 0 (wX5 cI cZ A cs cw ct cu cl cb cp) [(0, .ref (A 0)), (2, .int x2), (3, .int x3), (4, .int x4), (5, .int x5)] 75 []
    unfold fX5_walk_S75 at hf
    intro H locs hP hD hS ls hl
    refine lv_iload hx hb dX5_walk_75 (lv_at hl 4 rfl) ?_
    refine lv_bipush (v := 12) hx hb dX5_walk_77 (by decide) ?_
    refine lv_icmp_gt (tgt := 185) hx hb dX5_walk_79 (by decide) (fun c79 => ?_) (fun c79 => ?_)
    · have hf := if_t c79 hf
      refine lv_iconst (v := (-1)) hx hb dX5_walk_185 (by decide) ?_
      cases hf
    · have hf := if_f c79 hf
      refine lv_aload_n hx hb dX5_walk_82 rfl (lv_at hl 0 rfl) ?_
      refine lv_iload_n hx hb dX5_walk_83 rfl (lv_at hl 2 rfl) ?_
      refine lv_iload hx hb dX5_walk_84 (lv_at hl 3 rfl) ?_
      obtain ⟨q86, h86, hf⟩ := bd_t hf
      refine cl_i (va_runV (As := [.int x3, .int x4]) (rest := []) S (mX5_laneLetIn l D cI cZ A cs cw ct cu cl cb cp x3 x4 H.size q86 h86) (cwV 2 hts gX5_walk_X5_laneLetIn rfl rfl rfl (by decide +kernel) ⟨Nat.le_of_ble_eq_true rfl, Nat.le_of_ble_eq_true rfl⟩) (mP_V (ci := 5) (Cut.self _ []) hP hD hK hG rfl (gX5_0 _ _ _ _ _ _ _ _ _ _)) rfl rfl hl.1 rfl (lv_room (Nat.le_of_ble_eq_true rfl)) dX5_walk_86 ⟨Nat.le_of_ble_eq_true rfl, Nat.le_of_ble_eq_true rfl⟩) (Cut.self _ _) hP hD hS hA (fun H locs hP hD hS => ?_)
      refine lv_istore (lv' := [(6, .int q86), (0, .ref (A 0)), (2, .int x2), (3, .int x3), (4, .int x4), (5, .int x5)]) hx hb dX5_walk_89 hl (by decide) rfl (fun ls hl => ?_)
      refine lv_iload hx hb dX5_walk_91 (lv_at hl 0 rfl) ?_
      refine lv_if_ne (tgt := 100) hx hb dX5_walk_93 (by decide) (fun c93 => ?_) (fun c93 => ?_)
      · have hf := if_f c93 hf
        refine lv_aload_n hx hb dX5_walk_100 rfl (lv_at hl 1 rfl) ?_
        refine lv_iload_n hx hb dX5_walk_101 rfl (lv_at hl 3 rfl) ?_
        refine lv_iconst (v := 5) hx hb dX5_walk_102 (by decide) ?_
        refine lv_idiv hx hb dX5_walk_103 (by decide) ?_
        refine lv_iload hx hb dX5_walk_104 (lv_at hl 0 rfl) ?_
        refine lv_iload_n hx hb dX5_walk_106 rfl (lv_at hl 2 rfl) ?_
        obtain ⟨q107, h107, hf⟩ := bd_t hf
        refine cl_i (va_runV (As := [.int (x3 / 5), .int q86, .int x2]) (rest := []) S (mX5_wayTold l D cI cZ A cs cw ct cu cl cb cp (x3 / 5) q86 x2 H.size q107 h107) (cwV 3 hts gX5_walk_X5_wayTold rfl rfl rfl (by decide +kernel) ⟨Nat.le_of_ble_eq_true rfl, Nat.le_of_ble_eq_true rfl⟩) (mP_V (ci := 5) (Cut.self _ []) hP hD hK hG rfl (gX5_0 _ _ _ _ _ _ _ _ _ _)) rfl rfl hl.1 rfl (lv_room (Nat.le_of_ble_eq_true rfl)) dX5_walk_107 ⟨Nat.le_of_ble_eq_true rfl, Nat.le_of_ble_eq_true rfl⟩) (Cut.self _ _) hP hD hS hA (fun H locs hP hD hS => ?_)
        exact B110 _ _ _ _ k75 hk75 hf H locs hP hD hS ls (lv_sub hl [1, 2, 5, 0] rfl)
      · have hf := if_t c93 hf
        refine lv_iconst (v := (-1)) hx hb dX5_walk_96 (by decide) ?_
        refine lv_goto (tgt := 110) hx hb dX5_walk_97 (by decide) ?_
        exact B110 _ _ _ _ k75 hk75 hf H locs hP hD hS ls (lv_sub hl [1, 2, 5, 0] rfl)
  intro H locs hP hD hS ls hl
  have hl : lv_has ls 8 [(0, .ref (A 0)), (1, .int x1), (2, .int x2)] := hl
  unfold fX5_walk at hf
  refine lv_iload_n hx hb dX5_walk_0 rfl (lv_at hl 1 rfl) ?_
  rcases bx_r hf with h1x | ⟨q1, h1, hf⟩
  · exact clx_v (k := res) (vx_runS (As := [.int x1]) (rest := []) S (xX5_needHouse l hfl D cI cZ x1 H.size res h1x) (va_cwS 1 hts gX5_walk_X5_needHouse rfl rfl rfl (by decide +kernel) ⟨Nat.le_of_ble_eq_true rfl, Nat.le_of_ble_eq_true rfl⟩) (xP_S (Cut.nil _) hP hD hS hA hK hG hX hZ) rfl rfl hl.1 rfl (lv_room (Nat.le_of_ble_eq_true rfl)) dX5_walk_1 ⟨Nat.le_of_ble_eq_true rfl, Nat.le_of_ble_eq_true rfl⟩) (Cut.nil _) rfl hP hD hS hA (fun E ce q9 H locs hE hce hcv hcl hP hD hS => hO _ ls H locs _ E ce q9 hE hce hcv hcl hP hD hS)
  refine cl_v (va_runS (As := [.int x1]) (rest := []) S (mX5_needHouse l D cI cZ x1 H.size q1 h1) (va_cwS 1 hts gX5_walk_X5_needHouse rfl rfl rfl (by decide +kernel) ⟨Nat.le_of_ble_eq_true rfl, Nat.le_of_ble_eq_true rfl⟩) (mP_S (Cut.nil _) hP hD hK hG) rfl rfl hl.1 rfl (lv_room (Nat.le_of_ble_eq_true rfl)) dX5_walk_1 ⟨Nat.le_of_ble_eq_true rfl, Nat.le_of_ble_eq_true rfl⟩) (Cut.nil _) hP hD hS hA (fun H locs hP hD hS => ?_)
  refine lv_iload_n hx hb dX5_walk_4 rfl (lv_at hl 2 rfl) ?_
  rcases bx_r hf with h5x | ⟨q5, h5, hf⟩
  · exact clx_v (k := res) (vx_runS (As := [.int x2]) (rest := []) S (xX5_needHouse l hfl D cI cZ x2 H.size res h5x) (va_cwS 1 hts gX5_walk_X5_needHouse rfl rfl rfl (by decide +kernel) ⟨Nat.le_of_ble_eq_true rfl, Nat.le_of_ble_eq_true rfl⟩) (xP_S (Cut.nil _) hP hD hS hA hK hG hX hZ) rfl rfl hl.1 rfl (lv_room (Nat.le_of_ble_eq_true rfl)) dX5_walk_5 ⟨Nat.le_of_ble_eq_true rfl, Nat.le_of_ble_eq_true rfl⟩) (Cut.nil _) rfl hP hD hS hA (fun E ce q9 H locs hE hce hcv hcl hP hD hS => hO _ ls H locs _ E ce q9 hE hce hcv hcl hP hD hS)
  refine cl_v (va_runS (As := [.int x2]) (rest := []) S (mX5_needHouse l D cI cZ x2 H.size q5 h5) (va_cwS 1 hts gX5_walk_X5_needHouse rfl rfl rfl (by decide +kernel) ⟨Nat.le_of_ble_eq_true rfl, Nat.le_of_ble_eq_true rfl⟩) (mP_S (Cut.nil _) hP hD hK hG) rfl rfl hl.1 rfl (lv_room (Nat.le_of_ble_eq_true rfl)) dX5_walk_5 ⟨Nat.le_of_ble_eq_true rfl, Nat.le_of_ble_eq_true rfl⟩) (Cut.nil _) hP hD hS hA (fun H locs hP hD hS => ?_)
  refine lv_iload_n hx hb dX5_walk_8 rfl (lv_at hl 1 rfl) ?_
  refine lv_iload_n hx hb dX5_walk_9 rfl (lv_at hl 2 rfl) ?_
  refine lv_icmp_ne (tgt := 23) hx hb dX5_walk_10 (by decide) (fun c10 => ?_) (fun c10 => ?_)
  · have hf := if_f c10 hf
    refine lv_aload_n hx hb dX5_walk_23 rfl (lv_at hl 0 rfl) ?_
    refine ld_f S iX5 hK hP 0 0 (.ref (A 4)) (gX5_0 _ _ _ _ _ _ _ _ _ _) rfl (by decide) k12 rfl rfl dX5_walk_24 ?_
    refine ld_f S iX4 hK hP 4 4 (.ref (A 9)) (gX5_4 _ _ _ _ _ _ _ _ _ _) rfl (by decide) k116 rfl rfl dX5_walk_27 ?_
    refine lv_iload_n hx hb dX5_walk_30 rfl (lv_at hl 1 rfl) ?_
    obtain ⟨c31, hf⟩ := ck_t hf
    refine va_iald (f := cw 4) hx hb hK hP 9 0 (gX5_9 _ _ _ _ _ _ _ _ _ _) rfl (inb_in c31) dX5_walk_31 ?_
    refine lv_iconst (v := (-1)) hx hb dX5_walk_32 (by decide) ?_
    refine lv_icmp_eq (tgt := 49) hx hb dX5_walk_33 (by decide) (fun c33 => ?_) (fun c33 => ?_)
    · have hf := if_t c33 hf
      cases hf
      exact hT _ ls H locs _ 86 237 "a house is at no port" (by decide) (by decide +kernel) xc3 xi3 (fun w h => hts w (xw3 w h)) dX5_walk_49 dX5_walk_52 dX5_walk_53 dX5_walk_55 dX5_walk_58 hl.1 (Nat.le_of_ble_eq_true rfl) hP hD hS
    · have hf := if_f c33 hf
      refine lv_aload_n hx hb dX5_walk_36 rfl (lv_at hl 0 rfl) ?_
      refine ld_f S iX5 hK hP 0 0 (.ref (A 4)) (gX5_0 _ _ _ _ _ _ _ _ _ _) rfl (by decide) k12 rfl rfl dX5_walk_37 ?_
      refine ld_f S iX4 hK hP 4 4 (.ref (A 9)) (gX5_4 _ _ _ _ _ _ _ _ _ _) rfl (by decide) k116 rfl rfl dX5_walk_40 ?_
      refine lv_iload_n hx hb dX5_walk_43 rfl (lv_at hl 2 rfl) ?_
      obtain ⟨c44, hf⟩ := ck_t hf
      refine va_iald (f := cw 4) hx hb hK hP 9 0 (gX5_9 _ _ _ _ _ _ _ _ _ _) rfl (inb_in c44) dX5_walk_44 ?_
      refine lv_iconst (v := (-1)) hx hb dX5_walk_45 (by decide) ?_
      refine lv_icmp_ne (tgt := 59) hx hb dX5_walk_46 (by decide) (fun c46 => ?_) (fun c46 => ?_)
      · have hf := if_f c46 hf
        refine lv_aload_n hx hb dX5_walk_59 rfl (lv_at hl 0 rfl) ?_
        refine ld_f S iX5 hK hP 0 0 (.ref (A 4)) (gX5_0 _ _ _ _ _ _ _ _ _ _) rfl (by decide) k12 rfl rfl dX5_walk_60 ?_
        refine ld_f S iX4 hK hP 4 4 (.ref (A 9)) (gX5_4 _ _ _ _ _ _ _ _ _ _) rfl (by decide) k116 rfl rfl dX5_walk_63 ?_
        refine lv_iload_n hx hb dX5_walk_66 rfl (lv_at hl 1 rfl) ?_
        obtain ⟨c67, hf⟩ := ck_t hf
        refine va_iald (f := cw 4) hx hb hK hP 9 0 (gX5_9 _ _ _ _ _ _ _ _ _ _) rfl (inb_in c67) dX5_walk_67 ?_
        refine lv_istore_n (lv' := [(3, .int (cw 4 x1.toNatClampNeg)), (0, .ref (A 0)), (1, .int x1), (2, .int x2)]) hx hb dX5_walk_68 rfl hl (by decide) rfl (fun ls hl => ?_)
        refine lv_iconst (v := 0) hx hb dX5_walk_69 (by decide) ?_
        refine lv_istore (lv' := [(4, .int 0), (3, .int (cw 4 x1.toNatClampNeg)), (0, .ref (A 0)), (1, .int x1), (2, .int x2)]) hx hb dX5_walk_70 hl (by decide) rfl (fun ls hl => ?_)
        refine lv_iconst (v := 1) hx hb dX5_walk_72 (by decide) ?_
        refine lv_istore (lv' := [(5, .int 1), (4, .int 0), (3, .int (cw 4 x1.toNatClampNeg)), (0, .ref (A 0)), (1, .int x1), (2, .int x2)]) hx hb dX5_walk_73 hl (by decide) rfl (fun ls hl => ?_)
        exact B75 _ _ _ _ hf H locs hP hD hS ls (lv_sub hl [3, 5, 2, 1, 0] rfl)
      · have hf := if_t c46 hf
        cases hf
        exact hT _ ls H locs _ 86 237 "a house is at no port" (by decide) (by decide +kernel) xc3 xi3 (fun w h => hts w (xw3 w h)) dX5_walk_49 dX5_walk_52 dX5_walk_53 dX5_walk_55 dX5_walk_58 hl.1 (Nat.le_of_ble_eq_true rfl) hP hD hS
  · have hf := if_t c10 hf
    cases hf
    exact hT _ ls H locs _ 67 235 "a walk leads to another house" (by decide) (by decide +kernel) xc2 xi2 (fun w h => hts w (xw2 w h)) dX5_walk_13 dX5_walk_16 dX5_walk_17 dX5_walk_19 dX5_walk_22 hl.1 (Nat.le_of_ble_eq_true rfl) hP hD hS

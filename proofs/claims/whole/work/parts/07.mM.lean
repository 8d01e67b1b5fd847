set_option maxHeartbeats 4000000 in
set_option maxRecDepth 100000 in
theorem mX6_thrown (l : Launch) (D : va_G) (cI cZ : ClassId) (A : Nat → Nat)  (mm : St) (sz : Nat) (res : Int32) (hf : fX6_thrown mm = some res) : Met l yX6_thrown wsX6_thrown ({ frames := 0, cells := 0, slots := 0, locals := 0 }) (mP D (tysX cI cZ) [.ref (A 0)] (wX6 cI cZ A mm) sz) (mQi D res (wX6 cI cZ A mm) (wX6 cI cZ A mm) sz) 0 0 (va_A (wX6 cI cZ A mm) sz) := by
  refine mkM_i (cc := cX6_thrown) (maxL := 1) (own := RX6) (by decide +kernel) rfl rfl (Nat.le_of_ble_eq_true rfl) ?_
  intro p e s m args below meth c A0 Q S hK hG hA hR
  obtain ⟨hx, hb, hml, hown, hts⟩ := id S
  have k126 := hts (.fieldLink RX6 126 "SwitchFloorModel" "thrown" "I") (by decide +kernel)
  have iX6 : ∀ w ∈ wsX60, w ∈ wsX6_thrown := by decide +kernel
  intro H locs hP hD hS ls hl
  have hl : lv_has ls 1 [(0, .ref (A 0))] := hl
  unfold fX6_thrown at hf
  refine lv_aload_n hx hb dX6_thrown_0 rfl (lv_at hl 0 rfl) ?_
  refine ld_f S iX6 hK hP 0 40 (.int (mm 40 0)) (gX6_0 _ _ _ _) rfl (by decide) k126 rfl rfl dX6_thrown_1 ?_
  exact hR _ ls H locs _ _ (congrArg (fun q => q) (Option.some.inj hf)) rfl rfl dX6_thrown_4 hP hD hS
set_option maxHeartbeats 4000000 in
set_option maxRecDepth 100000 in
theorem mX6_fails (l : Launch) (D : va_G) (cI cZ : ClassId) (A : Nat → Nat)  (mm : St) (x1 : Int32) (sz : Nat) (res : Int32 × St) (hf : fX6_fails mm x1 = some res) : Met l yX6_fails wsX6_fails ({ frames := 0, cells := 0, slots := 0, locals := 0 }) (mP D (tysX cI cZ) [.ref (A 0), .int x1] (wX6 cI cZ A mm) sz) (mQi D res.1 (wX6 cI cZ A mm) (wX6 cI cZ A (res.2)) sz) 0 0 (va_A (wX6 cI cZ A mm) sz) := by
  refine mkM_i (cc := cX6_fails) (maxL := 2) (own := RX6) (by decide +kernel) rfl rfl (Nat.le_of_ble_eq_true rfl) ?_
  intro p e s m args below meth c A0 Q S hK hG hA hR
  obtain ⟨hx, hb, hml, hown, hts⟩ := id S
  have k126 := hts (.fieldLink RX6 126 "SwitchFloorModel" "thrown" "I") (by decide +kernel)
  have iX6 : ∀ w ∈ wsX60, w ∈ wsX6_fails := by decide +kernel
  intro H locs hP hD hS ls hl
  have hl : lv_has ls 2 [(0, .ref (A 0)), (1, .int x1)] := hl
  unfold fX6_fails at hf
  refine lv_aload_n hx hb dX6_fails_0 rfl (lv_at hl 0 rfl) ?_
  refine lv_iload_n hx hb dX6_fails_1 rfl (lv_at hl 1 rfl) ?_
  refine st_f S iX6 tyX6 tyX6_ok nmX6 hK hP hD hS 0 40 (sX6_0_40 _ _ _ _ _) (gX6_0 _ _ _ _) rfl (by decide) k126 rfl rfl (by decide +kernel) rfl dX6_fails_2 (fun H locs hP hD hS => ?_)
  refine lv_iload_n hx hb dX6_fails_5 rfl (lv_at hl 1 rfl) ?_
  refine lv_if_le (tgt := 13) hx hb dX6_fails_6 (by decide) (fun c6 => ?_) (fun c6 => ?_)
  · have hf := if_t c6 hf
    refine lv_iconst (v := 0) hx hb dX6_fails_13 (by decide) ?_
    exact hR _ ls H locs _ _ (congrArg (fun q => q.1) (Option.some.inj hf)) (congrArg (fun q => (wX6 cI cZ A (q.2))) (Option.some.inj hf)) (by decide) dX6_fails_14 hP hD hS
  · have hf := if_f c6 hf
    refine lv_iconst (v := 1) hx hb dX6_fails_9 (by decide) ?_
    refine lv_goto (tgt := 14) hx hb dX6_fails_10 (by decide) ?_
    exact hR _ ls H locs _ _ (congrArg (fun q => q.1) (Option.some.inj hf)) (congrArg (fun q => (wX6 cI cZ A (q.2))) (Option.some.inj hf)) (by decide) dX6_fails_14 hP hD hS
set_option maxHeartbeats 4000000 in
set_option maxRecDepth 100000 in
theorem mX6_isIn (l : Launch) (D : va_G) (cI cZ : ClassId)  (x0 : Int32) (x1 : Int32) (x2 : Int32) (sz : Nat) (res : Int32) (hf : fX6_isIn x0 x1 x2 = some res) : Met l yX6_isIn wsX6_isIn ({ frames := 0, cells := 0, slots := 0, locals := 0 }) (mP D (tysX cI cZ) [.int x0, .int x1, .int x2] [] sz) (mQi D res [] [] sz) 0 0 (va_A [] sz) := by
  refine mkM_i (cc := cX6_isIn) (maxL := 3) (own := RX6) (by decide +kernel) rfl rfl (Nat.le_of_ble_eq_true rfl) ?_
  intro p e s m args below meth c A0 Q S hK hG hA hR
  obtain ⟨hx, hb, hml, hown, hts⟩ := id S
  intro H locs hP hD hS ls hl
  have hl : lv_has ls 3 [(0, .int x0), (1, .int x1), (2, .int x2)] := hl
  unfold fX6_isIn at hf
  refine lv_iload_n hx hb dX6_isIn_0 rfl (lv_at hl 0 rfl) ?_
  refine lv_iload_n hx hb dX6_isIn_1 rfl (lv_at hl 1 rfl) ?_
  refine lv_icmp_lt (tgt := 14) hx hb dX6_isIn_2 (by decide) (fun c2 => ?_) (fun c2 => ?_)
  · have hf := if_t c2 hf
    refine lv_iconst (v := 0) hx hb dX6_isIn_14 (by decide) ?_
    exact hR _ ls H locs _ _ (congrArg (fun q => q) (Option.some.inj hf)) rfl (by decide) dX6_isIn_15 hP hD hS
  · have hf := if_f c2 hf
    refine lv_iload_n hx hb dX6_isIn_5 rfl (lv_at hl 0 rfl) ?_
    refine lv_iload_n hx hb dX6_isIn_6 rfl (lv_at hl 2 rfl) ?_
    refine lv_icmp_gt (tgt := 14) hx hb dX6_isIn_7 (by decide) (fun c7 => ?_) (fun c7 => ?_)
    · have hf := if_t c7 hf
      refine lv_iconst (v := 0) hx hb dX6_isIn_14 (by decide) ?_
      exact hR _ ls H locs _ _ (congrArg (fun q => q) (Option.some.inj hf)) rfl (by decide) dX6_isIn_15 hP hD hS
    · have hf := if_f c7 hf
      refine lv_iconst (v := 1) hx hb dX6_isIn_10 (by decide) ?_
      refine lv_goto (tgt := 15) hx hb dX6_isIn_11 (by decide) ?_
      exact hR _ ls H locs _ _ (congrArg (fun q => q) (Option.some.inj hf)) rfl (by decide) dX6_isIn_15 hP hD hS
set_option maxHeartbeats 4000000 in
set_option maxRecDepth 100000 in
theorem mX6_isSwitch (l : Launch) (D : va_G) (cI cZ : ClassId)  (x0 : Int32) (sz : Nat) (res : Int32) (hf : fX6_isSwitch x0 = some res) : Met l yX6_isSwitch wsX6_isSwitch ({ frames := 1, cells := 0, slots := 0, locals := 22 }) (mP D (tysX cI cZ) [.int x0] [] sz) (mQi D res [] [] sz) 0 0 (va_A [] sz) := by
  refine mkM_i (cc := cX6_isSwitch) (maxL := 1) (own := RX6) (by decide +kernel) rfl rfl (Nat.le_of_ble_eq_true rfl) ?_
  intro p e s m args below meth c A0 Q S hK hG hA hR
  obtain ⟨hx, hb, hml, hown, hts⟩ := id S
  intro H locs hP hD hS ls hl
  have hl : lv_has ls 1 [(0, .int x0)] := hl
  unfold fX6_isSwitch at hf
  refine lv_iload_n hx hb dX6_isSwitch_0 rfl (lv_at hl 0 rfl) ?_
  refine lv_iconst (v := 0) hx hb dX6_isSwitch_1 (by decide) ?_
  refine lv_iconst (v := 5) hx hb dX6_isSwitch_2 (by decide) ?_
  obtain ⟨q3, h3, hf⟩ := bd_t hf
  refine cl_i (va_runS (As := [.int x0, .int 0, .int 5]) (rest := []) S (mX6_isIn l D cI cZ x0 0 5 H.size q3 h3) (va_cwS 3 hts gX6_isSwitch_X6_isIn rfl rfl rfl (by decide +kernel) ⟨Nat.le_of_ble_eq_true rfl, Nat.le_of_ble_eq_true rfl⟩) (mP_S (Cut.nil _) hP hD hK hG) rfl rfl hl.1 rfl (lv_room (Nat.le_of_ble_eq_true rfl)) dX6_isSwitch_3 ⟨Nat.le_refl _, Nat.le_refl _⟩) (Cut.nil _) hP hD hS hA (fun H locs hP hD hS => ?_)
  obtain ⟨c6, hf⟩ := ck_t hf
  exact hR _ ls H locs _ _ (congrArg (fun q => q) (Option.some.inj hf)) rfl (isb_n c6) dX6_isSwitch_6 hP hD hS
set_option maxHeartbeats 4000000 in
set_option maxRecDepth 100000 in
theorem mX6_isPort (l : Launch) (D : va_G) (cI cZ : ClassId)  (x0 : Int32) (x1 : Int32) (sz : Nat) (res : Int32) (hf : fX6_isPort x0 x1 = some res) : Met l yX6_isPort wsX6_isPort ({ frames := 2, cells := 0, slots := 0, locals := 42 }) (mP D (tysX cI cZ) [.int x0, .int x1] [] sz) (mQi D res [] [] sz) 0 0 (va_A [] sz) := by
  refine mkM_i (cc := cX6_isPort) (maxL := 2) (own := RX6) (by decide +kernel) rfl rfl (Nat.le_of_ble_eq_true rfl) ?_
  intro p e s m args below meth c A0 Q S hK hG hA hR
  obtain ⟨hx, hb, hml, hown, hts⟩ := id S
  intro H locs hP hD hS ls hl
  have hl : lv_has ls 2 [(0, .int x0), (1, .int x1)] := hl
  unfold fX6_isPort at hf
  refine lv_iload_n hx hb dX6_isPort_0 rfl (lv_at hl 0 rfl) ?_
  obtain ⟨q1, h1, hf⟩ := bd_t hf
  refine cl_i (va_runS (As := [.int x0]) (rest := []) S (mX6_isSwitch l D cI cZ x0 H.size q1 h1) (va_cwS 1 hts gX6_isPort_X6_isSwitch rfl rfl rfl (by decide +kernel) ⟨Nat.le_of_ble_eq_true rfl, Nat.le_of_ble_eq_true rfl⟩) (mP_S (Cut.nil _) hP hD hK hG) rfl rfl hl.1 rfl (lv_room (Nat.le_of_ble_eq_true rfl)) dX6_isPort_1 ⟨Nat.le_refl _, Nat.le_refl _⟩) (Cut.nil _) hP hD hS hA (fun H locs hP hD hS => ?_)
  refine lv_if_eq (tgt := 20) hx hb dX6_isPort_4 (by decide) (fun c4 => ?_) (fun c4 => ?_)
  · have hf := if_t c4 hf
    refine lv_iconst (v := 0) hx hb dX6_isPort_20 (by decide) ?_
    exact hR _ ls H locs _ _ (congrArg (fun q => q) (Option.some.inj hf)) rfl (by decide) dX6_isPort_21 hP hD hS
  · have hf := if_f c4 hf
    refine lv_iload_n hx hb dX6_isPort_7 rfl (lv_at hl 1 rfl) ?_
    refine lv_iconst (v := 0) hx hb dX6_isPort_8 (by decide) ?_
    refine lv_iconst (v := 4) hx hb dX6_isPort_9 (by decide) ?_
    obtain ⟨q10, h10, hf⟩ := bd_t hf
    refine cl_i (va_runS (As := [.int x1, .int 0, .int 4]) (rest := []) S (mX6_isIn l D cI cZ x1 0 4 H.size q10 h10) (va_cwS 3 hts gX6_isPort_X6_isIn rfl rfl rfl (by decide +kernel) ⟨Nat.le_of_ble_eq_true rfl, Nat.le_of_ble_eq_true rfl⟩) (mP_S (Cut.nil _) hP hD hK hG) rfl rfl hl.1 rfl (lv_room (Nat.le_of_ble_eq_true rfl)) dX6_isPort_10 ⟨Nat.le_refl _, Nat.le_refl _⟩) (Cut.nil _) hP hD hS hA (fun H locs hP hD hS => ?_)
    refine lv_if_eq (tgt := 20) hx hb dX6_isPort_13 (by decide) (fun c13 => ?_) (fun c13 => ?_)
    · have hf := if_t c13 hf
      refine lv_iconst (v := 0) hx hb dX6_isPort_20 (by decide) ?_
      exact hR _ ls H locs _ _ (congrArg (fun q => q) (Option.some.inj hf)) rfl (by decide) dX6_isPort_21 hP hD hS
    · have hf := if_f c13 hf
      refine lv_iconst (v := 1) hx hb dX6_isPort_16 (by decide) ?_
      refine lv_goto (tgt := 21) hx hb dX6_isPort_17 (by decide) ?_
      exact hR _ ls H locs _ _ (congrArg (fun q => q) (Option.some.inj hf)) rfl (by decide) dX6_isPort_21 hP hD hS
set_option maxHeartbeats 4000000 in
set_option maxRecDepth 100000 in
theorem mX6_isHouse (l : Launch) (D : va_G) (cI cZ : ClassId)  (x0 : Int32) (sz : Nat) (res : Int32) (hf : fX6_isHouse x0 = some res) : Met l yX6_isHouse wsX6_isHouse ({ frames := 1, cells := 0, slots := 0, locals := 22 }) (mP D (tysX cI cZ) [.int x0] [] sz) (mQi D res [] [] sz) 0 0 (va_A [] sz) := by
  refine mkM_i (cc := cX6_isHouse) (maxL := 1) (own := RX6) (by decide +kernel) rfl rfl (Nat.le_of_ble_eq_true rfl) ?_
  intro p e s m args below meth c A0 Q S hK hG hA hR
  obtain ⟨hx, hb, hml, hown, hts⟩ := id S
  intro H locs hP hD hS ls hl
  have hl : lv_has ls 1 [(0, .int x0)] := hl
  unfold fX6_isHouse at hf
  refine lv_iload_n hx hb dX6_isHouse_0 rfl (lv_at hl 0 rfl) ?_
  refine lv_iconst (v := 0) hx hb dX6_isHouse_1 (by decide) ?_
  refine lv_bipush (v := 9) hx hb dX6_isHouse_2 (by decide) ?_
  obtain ⟨q4, h4, hf⟩ := bd_t hf
  refine cl_i (va_runS (As := [.int x0, .int 0, .int 9]) (rest := []) S (mX6_isIn l D cI cZ x0 0 9 H.size q4 h4) (va_cwS 3 hts gX6_isHouse_X6_isIn rfl rfl rfl (by decide +kernel) ⟨Nat.le_of_ble_eq_true rfl, Nat.le_of_ble_eq_true rfl⟩) (mP_S (Cut.nil _) hP hD hK hG) rfl rfl hl.1 rfl (lv_room (Nat.le_of_ble_eq_true rfl)) dX6_isHouse_4 ⟨Nat.le_refl _, Nat.le_refl _⟩) (Cut.nil _) hP hD hS hA (fun H locs hP hD hS => ?_)
  obtain ⟨c7, hf⟩ := ck_t hf
  exact hR _ ls H locs _ _ (congrArg (fun q => q) (Option.some.inj hf)) rfl (isb_n c7) dX6_isHouse_7 hP hD hS
set_option maxHeartbeats 4000000 in
set_option maxRecDepth 100000 in
theorem mX6_isLane (l : Launch) (D : va_G) (cI cZ : ClassId)  (x0 : Int32) (sz : Nat) (res : Int32) (hf : fX6_isLane x0 = some res) : Met l yX6_isLane wsX6_isLane ({ frames := 1, cells := 0, slots := 0, locals := 22 }) (mP D (tysX cI cZ) [.int x0] [] sz) (mQi D res [] [] sz) 0 0 (va_A [] sz) := by
  refine mkM_i (cc := cX6_isLane) (maxL := 1) (own := RX6) (by decide +kernel) rfl rfl (Nat.le_of_ble_eq_true rfl) ?_
  intro p e s m args below meth c A0 Q S hK hG hA hR
  obtain ⟨hx, hb, hml, hown, hts⟩ := id S
  intro H locs hP hD hS ls hl
  have hl : lv_has ls 1 [(0, .int x0)] := hl
  unfold fX6_isLane at hf
  refine lv_iload_n hx hb dX6_isLane_0 rfl (lv_at hl 0 rfl) ?_
  refine lv_iconst (v := 1) hx hb dX6_isLane_1 (by decide) ?_
  refine lv_iconst (v := 3) hx hb dX6_isLane_2 (by decide) ?_
  obtain ⟨q3, h3, hf⟩ := bd_t hf
  refine cl_i (va_runS (As := [.int x0, .int 1, .int 3]) (rest := []) S (mX6_isIn l D cI cZ x0 1 3 H.size q3 h3) (va_cwS 3 hts gX6_isLane_X6_isIn rfl rfl rfl (by decide +kernel) ⟨Nat.le_of_ble_eq_true rfl, Nat.le_of_ble_eq_true rfl⟩) (mP_S (Cut.nil _) hP hD hK hG) rfl rfl hl.1 rfl (lv_room (Nat.le_of_ble_eq_true rfl)) dX6_isLane_3 ⟨Nat.le_refl _, Nat.le_refl _⟩) (Cut.nil _) hP hD hS hA (fun H locs hP hD hS => ?_)
  obtain ⟨c6, hf⟩ := ck_t hf
  exact hR _ ls H locs _ _ (congrArg (fun q => q) (Option.some.inj hf)) rfl (isb_n c6) dX6_isLane_6 hP hD hS
set_option maxHeartbeats 4000000 in
set_option maxRecDepth 100000 in
theorem mX6_isBetter (l : Launch) (D : va_G) (cI cZ : ClassId) (A : Nat → Nat)  (mm : St) (x1 : Int32) (x2 : Int32) (sz : Nat) (res : Int32) (hf : fX6_isBetter mm x1 x2 = some res) : Met l yX6_isBetter wsX6_isBetter ({ frames := 0, cells := 0, slots := 0, locals := 0 }) (mP D (tysX cI cZ) [.ref (A 0), .int x1, .int x2] (wX6 cI cZ A mm) sz) (mQi D res (wX6 cI cZ A mm) (wX6 cI cZ A mm) sz) 0 0 (va_A (wX6 cI cZ A mm) sz) := by
  refine mkM_i (cc := cX6_isBetter) (maxL := 3) (own := RX6) (by decide +kernel) rfl rfl (Nat.le_of_ble_eq_true rfl) ?_
  intro p e s m args below meth c A0 Q S hK hG hA hR
  obtain ⟨hx, hb, hml, hown, hts⟩ := id S
  have k13 := hts (.fieldLink RX6 13 "SwitchFloorModel" "rank" "[I") (by decide +kernel)
  have iX6 : ∀ w ∈ wsX60, w ∈ wsX6_isBetter := by decide +kernel
  intro H locs hP hD hS ls hl
  have hl : lv_has ls 3 [(0, .ref (A 0)), (1, .int x1), (2, .int x2)] := hl
  unfold fX6_isBetter at hf
  refine lv_aload_n hx hb dX6_isBetter_0 rfl (lv_at hl 0 rfl) ?_
  refine ld_f S iX6 hK hP 0 2 (.ref (A 1)) (gX6_0 _ _ _ _) rfl (by decide) k13 rfl rfl dX6_isBetter_1 ?_
  refine lv_iload_n hx hb dX6_isBetter_4 rfl (lv_at hl 1 rfl) ?_
  obtain ⟨c5, hf⟩ := ck_t hf
  refine va_iald (f := mm 2) hx hb hK hP 1 0 (gX6_1 _ _ _ _) rfl (inb_in c5) dX6_isBetter_5 ?_
  refine lv_aload_n hx hb dX6_isBetter_6 rfl (lv_at hl 0 rfl) ?_
  refine ld_f S iX6 hK hP 0 2 (.ref (A 1)) (gX6_0 _ _ _ _) rfl (by decide) k13 rfl rfl dX6_isBetter_7 ?_
  refine lv_iload_n hx hb dX6_isBetter_10 rfl (lv_at hl 2 rfl) ?_
  obtain ⟨c11, hf⟩ := ck_t hf
  refine va_iald (f := mm 2) hx hb hK hP 1 0 (gX6_1 _ _ _ _) rfl (inb_in c11) dX6_isBetter_11 ?_
  refine lv_icmp_lt (tgt := 35) hx hb dX6_isBetter_12 (by decide) (fun c12 => ?_) (fun c12 => ?_)
  · have hf := if_t c12 hf
    refine lv_iconst (v := 1) hx hb dX6_isBetter_35 (by decide) ?_
    refine lv_goto (tgt := 40) hx hb dX6_isBetter_36 (by decide) ?_
    exact hR _ ls H locs _ _ (congrArg (fun q => q) (Option.some.inj hf)) rfl (by decide) dX6_isBetter_40 hP hD hS
  · have hf := if_f c12 hf
    refine lv_aload_n hx hb dX6_isBetter_15 rfl (lv_at hl 0 rfl) ?_
    refine ld_f S iX6 hK hP 0 2 (.ref (A 1)) (gX6_0 _ _ _ _) rfl (by decide) k13 rfl rfl dX6_isBetter_16 ?_
    refine lv_iload_n hx hb dX6_isBetter_19 rfl (lv_at hl 1 rfl) ?_
    obtain ⟨c20, hf⟩ := ck_t hf
    refine va_iald (f := mm 2) hx hb hK hP 1 0 (gX6_1 _ _ _ _) rfl (inb_in c20) dX6_isBetter_20 ?_
    refine lv_aload_n hx hb dX6_isBetter_21 rfl (lv_at hl 0 rfl) ?_
    refine ld_f S iX6 hK hP 0 2 (.ref (A 1)) (gX6_0 _ _ _ _) rfl (by decide) k13 rfl rfl dX6_isBetter_22 ?_
    refine lv_iload_n hx hb dX6_isBetter_25 rfl (lv_at hl 2 rfl) ?_
    obtain ⟨c26, hf⟩ := ck_t hf
    refine va_iald (f := mm 2) hx hb hK hP 1 0 (gX6_1 _ _ _ _) rfl (inb_in c26) dX6_isBetter_26 ?_
    refine lv_icmp_ne (tgt := 39) hx hb dX6_isBetter_27 (by decide) (fun c27 => ?_) (fun c27 => ?_)
    · have hf := if_f c27 hf
      refine lv_iconst (v := 0) hx hb dX6_isBetter_39 (by decide) ?_
      exact hR _ ls H locs _ _ (congrArg (fun q => q) (Option.some.inj hf)) rfl (by decide) dX6_isBetter_40 hP hD hS
    · have hf := if_t c27 hf
      refine lv_iload_n hx hb dX6_isBetter_30 rfl (lv_at hl 1 rfl) ?_
      refine lv_iload_n hx hb dX6_isBetter_31 rfl (lv_at hl 2 rfl) ?_
      refine lv_icmp_ge (tgt := 39) hx hb dX6_isBetter_32 (by decide) (fun c32 => ?_) (fun c32 => ?_)
      · have hf := if_t c32 hf
        refine lv_iconst (v := 0) hx hb dX6_isBetter_39 (by decide) ?_
        exact hR _ ls H locs _ _ (congrArg (fun q => q) (Option.some.inj hf)) rfl (by decide) dX6_isBetter_40 hP hD hS
      · have hf := if_f c32 hf
        refine lv_iconst (v := 1) hx hb dX6_isBetter_35 (by decide) ?_
        refine lv_goto (tgt := 40) hx hb dX6_isBetter_36 (by decide) ?_
        exact hR _ ls H locs _ _ (congrArg (fun q => q) (Option.some.inj hf)) rfl (by decide) dX6_isBetter_40 hP hD hS
set_option maxHeartbeats 4000000 in
set_option maxRecDepth 100000 in
theorem mX6_isUsed (l : Launch) (D : va_G) (cI cZ : ClassId) (A : Nat → Nat)  (mm : St) (x1 : Int32) (sz : Nat) (res : Int32) (hf : fX6_isUsed mm x1 = some res) : Met l yX6_isUsed wsX6_isUsed ({ frames := 0, cells := 0, slots := 0, locals := 0 }) (mP D (tysX cI cZ) [.ref (A 0), .int x1] (wX6 cI cZ A mm) sz) (mQi D res (wX6 cI cZ A mm) (wX6 cI cZ A mm) sz) 0 0 (va_A (wX6 cI cZ A mm) sz) := by
  refine mkM_i (cc := cX6_isUsed) (maxL := 2) (own := RX6) (by decide +kernel) rfl rfl (Nat.le_of_ble_eq_true rfl) ?_
  intro p e s m args below meth c A0 Q S hK hG hA hR
  obtain ⟨hx, hb, hml, hown, hts⟩ := id S
  have k17 := hts (.fieldLink RX6 17 "SwitchFloorModel" "wire" "[I") (by decide +kernel)
  have iX6 : ∀ w ∈ wsX60, w ∈ wsX6_isUsed := by decide +kernel
  have k23 := hts (.fieldLink RX6 23 "SwitchFloorModel" "house" "[I") (by decide +kernel)
  intro H locs hP hD hS ls hl
  have hl : lv_has ls 2 [(0, .ref (A 0)), (1, .int x1)] := hl
  unfold fX6_isUsed at hf
  refine lv_aload_n hx hb dX6_isUsed_0 rfl (lv_at hl 0 rfl) ?_
  refine ld_f S iX6 hK hP 0 3 (.ref (A 2)) (gX6_0 _ _ _ _) rfl (by decide) k17 rfl rfl dX6_isUsed_1 ?_
  refine lv_iload_n hx hb dX6_isUsed_4 rfl (lv_at hl 1 rfl) ?_
  obtain ⟨c5, hf⟩ := ck_t hf
  refine va_iald (f := mm 3) hx hb hK hP 2 0 (gX6_2 _ _ _ _) rfl (inb_in c5) dX6_isUsed_5 ?_
  refine lv_iconst (v := (-1)) hx hb dX6_isUsed_6 (by decide) ?_
  refine lv_icmp_ne (tgt := 20) hx hb dX6_isUsed_7 (by decide) (fun c7 => ?_) (fun c7 => ?_)
  · have hf := if_f c7 hf
    refine lv_iconst (v := 1) hx hb dX6_isUsed_20 (by decide) ?_
    refine lv_goto (tgt := 25) hx hb dX6_isUsed_21 (by decide) ?_
    exact hR _ ls H locs _ _ (congrArg (fun q => q) (Option.some.inj hf)) rfl (by decide) dX6_isUsed_25 hP hD hS
  · have hf := if_t c7 hf
    refine lv_aload_n hx hb dX6_isUsed_10 rfl (lv_at hl 0 rfl) ?_
    refine ld_f S iX6 hK hP 0 5 (.ref (A 4)) (gX6_0 _ _ _ _) rfl (by decide) k23 rfl rfl dX6_isUsed_11 ?_
    refine lv_iload_n hx hb dX6_isUsed_14 rfl (lv_at hl 1 rfl) ?_
    obtain ⟨c15, hf⟩ := ck_t hf
    refine va_iald (f := mm 5) hx hb hK hP 4 0 (gX6_4 _ _ _ _) rfl (inb_in c15) dX6_isUsed_15 ?_
    refine lv_iconst (v := (-1)) hx hb dX6_isUsed_16 (by decide) ?_
    refine lv_icmp_eq (tgt := 24) hx hb dX6_isUsed_17 (by decide) (fun c17 => ?_) (fun c17 => ?_)
    · have hf := if_t c17 hf
      refine lv_iconst (v := 0) hx hb dX6_isUsed_24 (by decide) ?_
      exact hR _ ls H locs _ _ (congrArg (fun q => q) (Option.some.inj hf)) rfl (by decide) dX6_isUsed_25 hP hD hS
    · have hf := if_f c17 hf
      refine lv_iconst (v := 1) hx hb dX6_isUsed_20 (by decide) ?_
      refine lv_goto (tgt := 25) hx hb dX6_isUsed_21 (by decide) ?_
      exact hR _ ls H locs _ _ (congrArg (fun q => q) (Option.some.inj hf)) rfl (by decide) dX6_isUsed_25 hP hD hS
set_option maxHeartbeats 4000000 in
set_option maxRecDepth 100000 in
theorem mX6_begins (l : Launch) (D : va_G) (cI cZ : ClassId) (A : Nat → Nat)  (mm : St) (x1 : Int32) (sz : Nat) (res : St) (hf : fX6_begins mm x1 = some res) : Met l yX6_begins wsX6_begins ({ frames := 0, cells := 0, slots := 0, locals := 0 }) (mP D (tysX cI cZ) [.ref (A 0), .int x1] (wX6 cI cZ A mm) sz) (mQv D (wX6 cI cZ A mm) (wX6 cI cZ A res) sz) 0 0 (va_A (wX6 cI cZ A mm) sz) := by
  refine mkM_v (cc := cX6_begins) (maxL := 2) (own := RX6) (by decide +kernel) rfl rfl (Nat.le_of_ble_eq_true rfl) ?_
  intro p e s m args below meth c A0 Q S hK hG hA hR
  obtain ⟨hx, hb, hml, hown, hts⟩ := id S
  have k45 := hts (.fieldLink RX6 45 "SwitchFloorModel" "isOpen" "[Z") (by decide +kernel)
  have iX6 : ∀ w ∈ wsX60, w ∈ wsX6_begins := by decide +kernel
  have k48 := hts (.fieldLink RX6 48 "SwitchFloorModel" "role" "[I") (by decide +kernel)
  have k51 := hts (.fieldLink RX6 51 "SwitchFloorModel" "streak" "[I") (by decide +kernel)
  intro H locs hP hD hS ls hl
  have hl : lv_has ls 2 [(0, .ref (A 0)), (1, .int x1)] := hl
  unfold fX6_begins at hf
  refine lv_aload_n hx hb dX6_begins_0 rfl (lv_at hl 0 rfl) ?_
  refine ld_f S iX6 hK hP 0 12 (.ref (A 11)) (gX6_0 _ _ _ _) rfl (by decide) k45 rfl rfl dX6_begins_1 ?_
  refine lv_iload_n hx hb dX6_begins_4 rfl (lv_at hl 1 rfl) ?_
  refine lv_iconst (v := 0) hx hb dX6_begins_5 (by decide) ?_
  obtain ⟨c6, hf⟩ := ck_t hf
  refine st_z hx hb hK hP hD hS 11 1 (sX6_11 _ _ _ _ _ _) (gX6_11 _ _ _ _) rfl c6 dX6_begins_6 (fun H locs hP hD hS => ?_)
  refine lv_aload_n hx hb dX6_begins_7 rfl (lv_at hl 0 rfl) ?_
  refine ld_f S iX6 hK hP 0 13 (.ref (A 12)) (gX6_0 _ _ _ _) rfl (by decide) k48 rfl rfl dX6_begins_8 ?_
  refine lv_iload_n hx hb dX6_begins_11 rfl (lv_at hl 1 rfl) ?_
  refine lv_iconst (v := 0) hx hb dX6_begins_12 (by decide) ?_
  obtain ⟨c13, hf⟩ := ck_t hf
  refine st_i hx hb hK hP hD hS 12 0 (sX6_12 _ _ _ _ _ _) (gX6_12 _ _ _ _) rfl c13 dX6_begins_13 (fun H locs hP hD hS => ?_)
  refine lv_aload_n hx hb dX6_begins_14 rfl (lv_at hl 0 rfl) ?_
  refine ld_f S iX6 hK hP 0 14 (.ref (A 13)) (gX6_0 _ _ _ _) rfl (by decide) k51 rfl rfl dX6_begins_15 ?_
  refine lv_iload_n hx hb dX6_begins_18 rfl (lv_at hl 1 rfl) ?_
  refine lv_iconst (v := 0) hx hb dX6_begins_19 (by decide) ?_
  obtain ⟨c20, hf⟩ := ck_t hf
  refine st_i hx hb hK hP hD hS 13 0 (sX6_13 _ _ _ _ _ _) (gX6_13 _ _ _ _) rfl c20 dX6_begins_20 (fun H locs hP hD hS => ?_)
  exact hR _ ls H locs _ (congrArg (fun q => (wX6 cI cZ A q)) (Option.some.inj hf)) dX6_begins_21 hP hD hS
set_option maxHeartbeats 4000000 in
set_option maxRecDepth 100000 in
theorem mX6_wire (l : Launch) (D : va_G) (cI cZ : ClassId) (A : Nat → Nat)  (mm : St) (x1 : Int32) (x2 : Int32) (x3 : Int32) (x4 : Int32) (x5 : Int32) (sz : Nat) (res : Int32 × St) (hf : fX6_wire mm x1 x2 x3 x4 x5 = some res) : Met l yX6_wire wsX6_wire ({ frames := 3, cells := 0, slots := 0, locals := 63 }) (mP D (tysX cI cZ) [.ref (A 0), .int x1, .int x2, .int x3, .int x4, .int x5] (wX6 cI cZ A mm) sz) (mQi D res.1 (wX6 cI cZ A mm) (wX6 cI cZ A (res.2)) sz) 0 0 (va_A (wX6 cI cZ A mm) sz) := by
  refine mkM_i (cc := cX6_wire) (maxL := 12) (own := RX6) (by decide +kernel) rfl rfl (Nat.le_of_ble_eq_true rfl) ?_
  intro p e s m args below meth c A0 Q S hK hG hA hR
  obtain ⟨hx, hb, hml, hown, hts⟩ := id S
  have k17 := hts (.fieldLink RX6 17 "SwitchFloorModel" "wire" "[I") (by decide +kernel)
  have iX6 : ∀ w ∈ wsX60, w ∈ wsX6_wire := by decide +kernel
  have k20 := hts (.fieldLink RX6 20 "SwitchFloorModel" "cost" "[I") (by decide +kernel)
  have B166 : ∀ (mm : St) (x10 : Int32) (x11 : Int32), fX6_wire_L166 mm x10 x11 = some res → Bk p l e ({ frames := 3, cells := 0, slots := 0, locals := 63 }) s m args below meth c Q A0 D 12 0 0 (wX6 cI cZ A mm) [(0, .ref (A 0)), (10, .int x10), (11, .int x11)] 166 [] := by
    intro mm x10 x11 hf
    refine loop_ind (step := (fun k a => fX6_wire_S166 k mm (a.1) (a.2))) (fun a => Bk p l e ({ frames := 3, cells := 0, slots := 0, locals := 63 }) s m args below meth c Q A0 D 12 0 0 (wX6 cI cZ A mm) [(0, .ref (A 0)), (10, .int (a.1)), (11, .int (a.2))] 166 []) ?_ _ _ hf
    clear hf
    intro k166 hk166 a hf
    obtain ⟨x10_, x11_⟩ := a
    clear x10 x11
    obtain ⟨x10, e_⟩ : ∃ z, z = x10_ := ⟨_, rfl⟩
    subst e_
    obtain ⟨x11, e_⟩ : ∃ z, z = x11_ := ⟨_, rfl⟩
    subst e_
    have hf : fX6_wire_S166 k166 mm x10 x11 = some res := hf
    show Bk p l e ({ frames := 3, cells := 0, slots := 0, locals := 63 }) s m args below meth c Q A0 D 12 0 0 (wX6 cI cZ A mm) [(0, .ref (A 0)), (10, .int x10), (11, .int x11)] 166 []
    unfold fX6_wire_S166 at hf
    intro H locs hP hD hS ls hl
    refine lv_iload hx hb dX6_wire_166 (lv_at hl 2 rfl) ?_
    refine lv_bipush (v := 30) hx hb dX6_wire_168 (by decide) ?_
    refine lv_icmp_ge (tgt := 200) hx hb dX6_wire_170 (by decide) (fun c170 => ?_) (fun c170 => ?_)
    · have hf := if_t c170 hf
      refine lv_iload hx hb dX6_wire_200 (lv_at hl 1 rfl) ?_
      refine lv_iconst (v := 2) hx hb dX6_wire_202 (by decide) ?_
      refine lv_idiv hx hb dX6_wire_203 (by decide) ?_
      exact hR _ ls H locs _ _ (congrArg (fun q => q.1) (Option.some.inj hf)) (congrArg (fun q => (wX6 cI cZ A (q.2))) (Option.some.inj hf)) rfl dX6_wire_204 hP hD hS
    · have hf := if_f c170 hf
      refine lv_iload hx hb dX6_wire_173 (lv_at hl 1 rfl) ?_
      refine lv_aload_n hx hb dX6_wire_175 rfl (lv_at hl 0 rfl) ?_
      refine ld_f S iX6 hK hP 0 3 (.ref (A 2)) (gX6_0 _ _ _ _) rfl (by decide) k17 rfl rfl dX6_wire_176 ?_
      refine lv_iload hx hb dX6_wire_179 (lv_at hl 2 rfl) ?_
      obtain ⟨c181, hf⟩ := ck_t hf
      refine va_iald (f := mm 3) hx hb hK hP 2 0 (gX6_2 _ _ _ _) rfl (inb_in c181) dX6_wire_181 ?_
      refine lv_iconst (v := (-1)) hx hb dX6_wire_182 (by decide) ?_
      refine lv_icmp_eq (tgt := 190) hx hb dX6_wire_183 (by decide) (fun c183 => ?_) (fun c183 => ?_)
      · have hf := if_t c183 hf
        refine lv_iconst (v := 0) hx hb dX6_wire_190 (by decide) ?_
        refine lv_iadd hx hb dX6_wire_191 ?_
        refine lv_istore (lv' := [(10, .int (x10 + 0)), (0, .ref (A 0)), (11, .int x11)]) hx hb dX6_wire_192 hl (by decide) rfl (fun ls hl => ?_)
        refine lv_iinc (v := x11 + 1) (lv' := [(11, .int (x11 + 1)), (10, .int (x10 + 0)), (0, .ref (A 0))]) hx hb dX6_wire_194 hl (k := 2) rfl rfl (by decide) rfl (fun ls hl => ?_)
        refine lv_goto (tgt := 166) hx hb dX6_wire_197 (by decide) ?_
        exact hk166 _ hf H locs hP hD hS ls (lv_sub hl [2, 1, 0] rfl)
      · have hf := if_f c183 hf
        refine lv_iconst (v := 1) hx hb dX6_wire_186 (by decide) ?_
        refine lv_goto (tgt := 191) hx hb dX6_wire_187 (by decide) ?_
        refine lv_iadd hx hb dX6_wire_191 ?_
        refine lv_istore (lv' := [(10, .int (x10 + 1)), (0, .ref (A 0)), (11, .int x11)]) hx hb dX6_wire_192 hl (by decide) rfl (fun ls hl => ?_)
        refine lv_iinc (v := x11 + 1) (lv' := [(11, .int (x11 + 1)), (10, .int (x10 + 1)), (0, .ref (A 0))]) hx hb dX6_wire_194 hl (k := 2) rfl rfl (by decide) rfl (fun ls hl => ?_)
        refine lv_goto (tgt := 166) hx hb dX6_wire_197 (by decide) ?_
        exact hk166 _ hf H locs hP hD hS ls (lv_sub hl [2, 1, 0] rfl)
  have B104 : ∀ (mm : St) (x5 : Int32) (x8 : Int32) (x9 : Int32) (y0 : Int32), fX6_wire_J104 mm x5 x8 x9 y0 = some res → Bk p l e ({ frames := 3, cells := 0, slots := 0, locals := 63 }) s m args below meth c Q A0 D 12 0 0 (wX6 cI cZ A mm) [(0, .ref (A 0)), (5, .int x5), (8, .int x8), (9, .int x9)] 104 [.int y0, .ref (A 0)] := by
    intro mm x5 x8 x9 y0 hf
    unfold fX6_wire_J104 at hf
    intro H locs hP hD hS ls hl
    obtain ⟨q104, h104, hf⟩ := bd_t hf
    refine cl_i (va_runV (As := [.int y0]) (rest := []) S (mX6_fails l D cI cZ A mm y0 H.size q104 h104) (cwV 1 hts gX6_wire_X6_fails rfl rfl rfl (by decide +kernel) ⟨Nat.le_of_ble_eq_true rfl, Nat.le_of_ble_eq_true rfl⟩) (mP_V (ci := 6) (Cut.self _ []) hP hD hK hG rfl (gX6_0 _ _ _ _)) rfl rfl hl.1 rfl (lv_room (Nat.le_of_ble_eq_true rfl)) dX6_wire_104 ⟨Nat.le_refl _, Nat.le_refl _⟩) (Cut.self _ _) hP hD hS hA (fun H locs hP hD hS => ?_)
    refine lv_if_eq (tgt := 112) hx hb dX6_wire_107 (by decide) (fun c107 => ?_) (fun c107 => ?_)
    · have hf := if_t c107 hf
      refine lv_aload_n hx hb dX6_wire_112 rfl (lv_at hl 0 rfl) ?_
      refine ld_f S iX6 hK hP 0 3 (.ref (A 2)) (gX6_0 _ _ _ _) rfl (by decide) k17 rfl rfl dX6_wire_113 ?_
      refine lv_iload hx hb dX6_wire_116 (lv_at hl 2 rfl) ?_
      refine lv_iload hx hb dX6_wire_118 (lv_at hl 3 rfl) ?_
      obtain ⟨c120, hf⟩ := ck_t hf
      refine st_i hx hb hK hP hD hS 2 0 (sX6_2 _ _ _ _ _ _) (gX6_2 _ _ _ _) rfl c120 dX6_wire_120 (fun H locs hP hD hS => ?_)
      refine lv_aload_n hx hb dX6_wire_121 rfl (lv_at hl 0 rfl) ?_
      refine ld_f S iX6 hK hP 0 3 (.ref (A 2)) (gX6_0 _ _ _ _) rfl (by decide) k17 rfl rfl dX6_wire_122 ?_
      refine lv_iload hx hb dX6_wire_125 (lv_at hl 3 rfl) ?_
      refine lv_iload hx hb dX6_wire_127 (lv_at hl 2 rfl) ?_
      obtain ⟨c129, hf⟩ := ck_t hf
      refine st_i hx hb hK hP hD hS 2 0 (sX6_2 _ _ _ _ _ _) (gX6_2 _ _ _ _) rfl c129 dX6_wire_129 (fun H locs hP hD hS => ?_)
      refine lv_aload_n hx hb dX6_wire_130 rfl (lv_at hl 0 rfl) ?_
      refine ld_f S iX6 hK hP 0 4 (.ref (A 3)) (gX6_0 _ _ _ _) rfl (by decide) k20 rfl rfl dX6_wire_131 ?_
      refine lv_iload hx hb dX6_wire_134 (lv_at hl 2 rfl) ?_
      refine lv_iload hx hb dX6_wire_136 (lv_at hl 1 rfl) ?_
      obtain ⟨c138, hf⟩ := ck_t hf
      refine st_i hx hb hK hP hD hS 3 0 (sX6_3 _ _ _ _ _ _) (gX6_3 _ _ _ _) rfl c138 dX6_wire_138 (fun H locs hP hD hS => ?_)
      refine lv_aload_n hx hb dX6_wire_139 rfl (lv_at hl 0 rfl) ?_
      refine ld_f S iX6 hK hP 0 4 (.ref (A 3)) (gX6_0 _ _ _ _) rfl (by decide) k20 rfl rfl dX6_wire_140 ?_
      refine lv_iload hx hb dX6_wire_143 (lv_at hl 3 rfl) ?_
      refine lv_iload hx hb dX6_wire_145 (lv_at hl 1 rfl) ?_
      obtain ⟨c147, hf⟩ := ck_t hf
      refine st_i hx hb hK hP hD hS 3 0 (sX6_3 _ _ _ _ _ _) (gX6_3 _ _ _ _) rfl c147 dX6_wire_147 (fun H locs hP hD hS => ?_)
      refine lv_aload_n hx hb dX6_wire_148 rfl (lv_at hl 0 rfl) ?_
      refine lv_iload hx hb dX6_wire_149 (lv_at hl 2 rfl) ?_
      obtain ⟨q151, h151, hf⟩ := bd_t hf
      refine cl_v (va_runV (As := [.int x8]) (rest := []) S (mX6_begins l D cI cZ A (aS (aS (aS (aS (q104.2) 3 x8 x9) 3 x9 x8) 4 x8 x5) 4 x9 x5) x8 H.size q151 h151) (cwV 1 hts gX6_wire_X6_begins rfl rfl rfl (by decide +kernel) ⟨Nat.le_of_ble_eq_true rfl, Nat.le_of_ble_eq_true rfl⟩) (mP_V (ci := 6) (Cut.self _ []) hP hD hK hG rfl (gX6_0 _ _ _ _)) rfl rfl hl.1 rfl (lv_room (Nat.le_of_ble_eq_true rfl)) dX6_wire_151 ⟨Nat.le_refl _, Nat.le_refl _⟩) (Cut.self _ _) hP hD hS hA (fun H locs hP hD hS => ?_)
      refine lv_aload_n hx hb dX6_wire_154 rfl (lv_at hl 0 rfl) ?_
      refine lv_iload hx hb dX6_wire_155 (lv_at hl 3 rfl) ?_
      obtain ⟨q157, h157, hf⟩ := bd_t hf
      refine cl_v (va_runV (As := [.int x9]) (rest := []) S (mX6_begins l D cI cZ A q151 x9 H.size q157 h157) (cwV 1 hts gX6_wire_X6_begins rfl rfl rfl (by decide +kernel) ⟨Nat.le_of_ble_eq_true rfl, Nat.le_of_ble_eq_true rfl⟩) (mP_V (ci := 6) (Cut.self _ []) hP hD hK hG rfl (gX6_0 _ _ _ _)) rfl rfl hl.1 rfl (lv_room (Nat.le_of_ble_eq_true rfl)) dX6_wire_157 ⟨Nat.le_refl _, Nat.le_refl _⟩) (Cut.self _ _) hP hD hS hA (fun H locs hP hD hS => ?_)
      refine lv_iconst (v := 0) hx hb dX6_wire_160 (by decide) ?_
      refine lv_istore (lv' := [(10, .int 0), (0, .ref (A 0)), (5, .int x5), (8, .int x8), (9, .int x9)]) hx hb dX6_wire_161 hl (by decide) rfl (fun ls hl => ?_)
      refine lv_iconst (v := 0) hx hb dX6_wire_163 (by decide) ?_
      refine lv_istore (lv' := [(11, .int 0), (10, .int 0), (0, .ref (A 0)), (5, .int x5), (8, .int x8), (9, .int x9)]) hx hb dX6_wire_164 hl (by decide) rfl (fun ls hl => ?_)
      exact B166 _ _ _ hf H locs hP hD hS ls (lv_sub hl [2, 1, 0] rfl)
    · have hf := if_f c107 hf
      refine lv_iconst (v := 0) hx hb dX6_wire_110 (by decide) ?_
      exact hR _ ls H locs _ _ (congrArg (fun q => q.1) (Option.some.inj hf)) (congrArg (fun q => (wX6 cI cZ A (q.2))) (Option.some.inj hf)) rfl dX6_wire_111 hP hD hS
  have B45 : ∀ (mm : St) (x1 : Int32) (x2 : Int32) (x3 : Int32) (x4 : Int32) (x5 : Int32) (x6 : Int32) (y0 : Int32), fX6_wire_J45 mm x1 x2 x3 x4 x5 x6 y0 = some res → Bk p l e ({ frames := 3, cells := 0, slots := 0, locals := 63 }) s m args below meth c Q A0 D 12 0 0 (wX6 cI cZ A mm) [(0, .ref (A 0)), (1, .int x1), (2, .int x2), (3, .int x3), (4, .int x4), (5, .int x5), (6, .int x6)] 45 [.int y0] := by
    intro mm x1 x2 x3 x4 x5 x6 y0 hf
    unfold fX6_wire_J45 at hf
    intro H locs hP hD hS ls hl
    refine lv_istore (lv' := [(7, .int y0), (0, .ref (A 0)), (1, .int x1), (2, .int x2), (3, .int x3), (4, .int x4), (5, .int x5), (6, .int x6)]) hx hb dX6_wire_45 hl (by decide) rfl (fun ls hl => ?_)
    refine lv_iconst (v := 5) hx hb dX6_wire_47 (by decide) ?_
    refine lv_iload_n hx hb dX6_wire_48 rfl (lv_at hl 2 rfl) ?_
    refine lv_imul hx hb dX6_wire_49 ?_
    refine lv_iload_n hx hb dX6_wire_50 rfl (lv_at hl 3 rfl) ?_
    refine lv_iadd hx hb dX6_wire_51 ?_
    refine lv_istore (lv' := [(8, .int ((5 * x1) + x2)), (7, .int y0), (0, .ref (A 0)), (1, .int x1), (2, .int x2), (3, .int x3), (4, .int x4), (5, .int x5), (6, .int x6)]) hx hb dX6_wire_52 hl (by decide) rfl (fun ls hl => ?_)
    refine lv_iconst (v := 5) hx hb dX6_wire_54 (by decide) ?_
    refine lv_iload_n hx hb dX6_wire_55 rfl (lv_at hl 5 rfl) ?_
    refine lv_imul hx hb dX6_wire_56 ?_
    refine lv_iload hx hb dX6_wire_57 (lv_at hl 6 rfl) ?_
    refine lv_iadd hx hb dX6_wire_59 ?_
    refine lv_istore (lv' := [(9, .int ((5 * x3) + x4)), (8, .int ((5 * x1) + x2)), (7, .int y0), (0, .ref (A 0)), (1, .int x1), (2, .int x2), (3, .int x3), (4, .int x4), (5, .int x5), (6, .int x6)]) hx hb dX6_wire_60 hl (by decide) rfl (fun ls hl => ?_)
    refine lv_aload_n hx hb dX6_wire_62 rfl (lv_at hl 3 rfl) ?_
    refine lv_iload hx hb dX6_wire_63 (lv_at hl 9 rfl) ?_
    refine lv_if_ne (tgt := 72) hx hb dX6_wire_65 (by decide) (fun c65 => ?_) (fun c65 => ?_)
    · have hf := if_f c65 hf
      refine lv_iload hx hb dX6_wire_72 (lv_at hl 2 rfl) ?_
      refine lv_if_ne (tgt := 81) hx hb dX6_wire_74 (by decide) (fun c74 => ?_) (fun c74 => ?_)
      · have hf := if_f c74 hf
        refine lv_aload_n hx hb dX6_wire_81 rfl (lv_at hl 3 rfl) ?_
        refine lv_iload hx hb dX6_wire_82 (lv_at hl 1 rfl) ?_
        obtain ⟨q84, h84, hf⟩ := bd_t hf
        refine cl_i (va_runV (As := [.int ((5 * x1) + x2)]) (rest := [.ref (A 0)]) S (mX6_isUsed l D cI cZ A mm ((5 * x1) + x2) H.size q84 h84) (cwV 1 hts gX6_wire_X6_isUsed rfl rfl rfl (by decide +kernel) ⟨Nat.le_of_ble_eq_true rfl, Nat.le_of_ble_eq_true rfl⟩) (mP_V (ci := 6) (Cut.self _ []) hP hD hK hG rfl (gX6_0 _ _ _ _)) rfl rfl hl.1 rfl (lv_room (Nat.le_of_ble_eq_true rfl)) dX6_wire_84 ⟨Nat.le_refl _, Nat.le_refl _⟩) (Cut.self _ _) hP hD hS hA (fun H locs hP hD hS => ?_)
        refine lv_if_ne (tgt := 99) hx hb dX6_wire_87 (by decide) (fun c87 => ?_) (fun c87 => ?_)
        · have hf := if_f c87 hf
          refine lv_iconst (v := 3) hx hb dX6_wire_99 (by decide) ?_
          refine lv_goto (tgt := 104) hx hb dX6_wire_100 (by decide) ?_
          exact B104 _ _ _ _ _ hf H locs hP hD hS ls (lv_sub hl [3, 8, 1, 0] rfl)
        · have hf := if_t c87 hf
          refine lv_aload_n hx hb dX6_wire_90 rfl (lv_at hl 3 rfl) ?_
          refine lv_iload hx hb dX6_wire_91 (lv_at hl 0 rfl) ?_
          obtain ⟨q93, h93, hf⟩ := bd_t hf
          refine cl_i (va_runV (As := [.int ((5 * x3) + x4)]) (rest := [.ref (A 0)]) S (mX6_isUsed l D cI cZ A mm ((5 * x3) + x4) H.size q93 h93) (cwV 1 hts gX6_wire_X6_isUsed rfl rfl rfl (by decide +kernel) ⟨Nat.le_of_ble_eq_true rfl, Nat.le_of_ble_eq_true rfl⟩) (mP_V (ci := 6) (Cut.self _ []) hP hD hK hG rfl (gX6_0 _ _ _ _)) rfl rfl hl.1 rfl (lv_room (Nat.le_of_ble_eq_true rfl)) dX6_wire_93 ⟨Nat.le_refl _, Nat.le_refl _⟩) (Cut.self _ _) hP hD hS hA (fun H locs hP hD hS => ?_)
          refine lv_if_eq (tgt := 103) hx hb dX6_wire_96 (by decide) (fun c96 => ?_) (fun c96 => ?_)
          · have hf := if_t c96 hf
            refine lv_iconst (v := 0) hx hb dX6_wire_103 (by decide) ?_
            exact B104 _ _ _ _ _ hf H locs hP hD hS ls (lv_sub hl [3, 8, 1, 0] rfl)
          · have hf := if_f c96 hf
            refine lv_iconst (v := 3) hx hb dX6_wire_99 (by decide) ?_
            refine lv_goto (tgt := 104) hx hb dX6_wire_100 (by decide) ?_
            exact B104 _ _ _ _ _ hf H locs hP hD hS ls (lv_sub hl [3, 8, 1, 0] rfl)
      · have hf := if_t c74 hf
        refine lv_iconst (v := 2) hx hb dX6_wire_77 (by decide) ?_
        refine lv_goto (tgt := 104) hx hb dX6_wire_78 (by decide) ?_
        exact B104 _ _ _ _ _ hf H locs hP hD hS ls (lv_sub hl [3, 8, 1, 0] rfl)
    · have hf := if_t c65 hf
      refine lv_iconst (v := 1) hx hb dX6_wire_68 (by decide) ?_
      refine lv_goto (tgt := 104) hx hb dX6_wire_69 (by decide) ?_
      exact B104 _ _ _ _ _ hf H locs hP hD hS ls (lv_sub hl [3, 8, 1, 0] rfl)
  have B44 : ∀ (mm : St) (x1 : Int32) (x2 : Int32) (x3 : Int32) (x4 : Int32) (x5 : Int32) (x6 : Int32), fX6_wire_J44 mm x1 x2 x3 x4 x5 x6 = some res → Bk p l e ({ frames := 3, cells := 0, slots := 0, locals := 63 }) s m args below meth c Q A0 D 12 0 0 (wX6 cI cZ A mm) [(0, .ref (A 0)), (1, .int x1), (2, .int x2), (3, .int x3), (4, .int x4), (5, .int x5), (6, .int x6)] 44 [] := by
    intro mm x1 x2 x3 x4 x5 x6 hf
    unfold fX6_wire_J44 at hf
    intro H locs hP hD hS ls hl
    refine lv_iconst (v := 0) hx hb dX6_wire_44 (by decide) ?_
    exact B45 _ _ _ _ _ _ _ _ hf H locs hP hD hS ls (lv_sub hl [0, 1, 2, 3, 4, 5, 6] rfl)
  have B22 : ∀ (mm : St) (x1 : Int32) (x2 : Int32) (x3 : Int32) (x4 : Int32) (x5 : Int32) (y0 : Int32), fX6_wire_J22 mm x1 x2 x3 x4 x5 y0 = some res → Bk p l e ({ frames := 3, cells := 0, slots := 0, locals := 63 }) s m args below meth c Q A0 D 12 0 0 (wX6 cI cZ A mm) [(0, .ref (A 0)), (1, .int x1), (2, .int x2), (3, .int x3), (4, .int x4), (5, .int x5)] 22 [.int y0] := by
    intro mm x1 x2 x3 x4 x5 y0 hf
    unfold fX6_wire_J22 at hf
    intro H locs hP hD hS ls hl
    refine lv_istore (lv' := [(6, .int y0), (0, .ref (A 0)), (1, .int x1), (2, .int x2), (3, .int x3), (4, .int x4), (5, .int x5)]) hx hb dX6_wire_22 hl (by decide) rfl (fun ls hl => ?_)
    refine lv_iload_n hx hb dX6_wire_24 rfl (lv_at hl 2 rfl) ?_
    refine lv_iload_n hx hb dX6_wire_25 rfl (lv_at hl 4 rfl) ?_
    refine lv_icmp_eq (tgt := 44) hx hb dX6_wire_26 (by decide) (fun c26 => ?_) (fun c26 => ?_)
    · have hf := if_t c26 hf
      exact B44 _ _ _ _ _ _ _ hf H locs hP hD hS ls (lv_sub hl [1, 2, 3, 4, 5, 6, 0] rfl)
    · have hf := if_f c26 hf
      refine lv_iload hx hb dX6_wire_29 (lv_at hl 6 rfl) ?_
      refine lv_iconst (v := 1) hx hb dX6_wire_31 (by decide) ?_
      refine lv_bipush (v := 100) hx hb dX6_wire_32 (by decide) ?_
      obtain ⟨q34, h34, hf⟩ := bd_t hf
      refine cl_i (va_runS (As := [.int x5, .int 1, .int 100]) (rest := []) S (mX6_isIn l D cI cZ x5 1 100 H.size q34 h34) (va_cwS 3 hts gX6_wire_X6_isIn rfl rfl rfl (by decide +kernel) ⟨Nat.le_of_ble_eq_true rfl, Nat.le_of_ble_eq_true rfl⟩) (mP_S (Cut.nil _) hP hD hK hG) rfl rfl hl.1 rfl (lv_room (Nat.le_of_ble_eq_true rfl)) dX6_wire_34 ⟨Nat.le_refl _, Nat.le_refl _⟩) (Cut.nil _) hP hD hS hA (fun H locs hP hD hS => ?_)
      refine lv_if_eq (tgt := 44) hx hb dX6_wire_37 (by decide) (fun c37 => ?_) (fun c37 => ?_)
      · have hf := if_t c37 hf
        exact B44 _ _ _ _ _ _ _ hf H locs hP hD hS ls (lv_sub hl [1, 2, 3, 4, 5, 6, 0] rfl)
      · have hf := if_f c37 hf
        refine lv_iconst (v := 1) hx hb dX6_wire_40 (by decide) ?_
        refine lv_goto (tgt := 45) hx hb dX6_wire_41 (by decide) ?_
        exact B45 _ _ _ _ _ _ _ _ hf H locs hP hD hS ls (lv_sub hl [1, 2, 3, 4, 5, 6, 0] rfl)
  have B21 : ∀ (mm : St) (x1 : Int32) (x2 : Int32) (x3 : Int32) (x4 : Int32) (x5 : Int32), fX6_wire_J21 mm x1 x2 x3 x4 x5 = some res → Bk p l e ({ frames := 3, cells := 0, slots := 0, locals := 63 }) s m args below meth c Q A0 D 12 0 0 (wX6 cI cZ A mm) [(0, .ref (A 0)), (1, .int x1), (2, .int x2), (3, .int x3), (4, .int x4), (5, .int x5)] 21 [] := by
    intro mm x1 x2 x3 x4 x5 hf
    unfold fX6_wire_J21 at hf
    intro H locs hP hD hS ls hl
    refine lv_iconst (v := 0) hx hb dX6_wire_21 (by decide) ?_
    exact B22 _ _ _ _ _ _ _ hf H locs hP hD hS ls (lv_sub hl [0, 1, 2, 3, 4, 5] rfl)
  intro H locs hP hD hS ls hl
  have hl : lv_has ls 12 [(0, .ref (A 0)), (1, .int x1), (2, .int x2), (3, .int x3), (4, .int x4), (5, .int x5)] := hl
  unfold fX6_wire at hf
  refine lv_iload_n hx hb dX6_wire_0 rfl (lv_at hl 1 rfl) ?_
  refine lv_iload_n hx hb dX6_wire_1 rfl (lv_at hl 2 rfl) ?_
  obtain ⟨q2, h2, hf⟩ := bd_t hf
  refine cl_i (va_runS (As := [.int x1, .int x2]) (rest := []) S (mX6_isPort l D cI cZ x1 x2 H.size q2 h2) (va_cwS 2 hts gX6_wire_X6_isPort rfl rfl rfl (by decide +kernel) ⟨Nat.le_of_ble_eq_true rfl, Nat.le_of_ble_eq_true rfl⟩) (mP_S (Cut.nil _) hP hD hK hG) rfl rfl hl.1 rfl (lv_room (Nat.le_of_ble_eq_true rfl)) dX6_wire_2 ⟨Nat.le_refl _, Nat.le_refl _⟩) (Cut.nil _) hP hD hS hA (fun H locs hP hD hS => ?_)
  refine lv_if_eq (tgt := 21) hx hb dX6_wire_5 (by decide) (fun c5 => ?_) (fun c5 => ?_)
  · have hf := if_t c5 hf
    exact B21 _ _ _ _ _ _ hf H locs hP hD hS ls (lv_sub hl [0, 1, 2, 3, 4, 5] rfl)
  · have hf := if_f c5 hf
    refine lv_iload_n hx hb dX6_wire_8 rfl (lv_at hl 3 rfl) ?_
    refine lv_iload hx hb dX6_wire_9 (lv_at hl 4 rfl) ?_
    obtain ⟨q11, h11, hf⟩ := bd_t hf
    refine cl_i (va_runS (As := [.int x3, .int x4]) (rest := []) S (mX6_isPort l D cI cZ x3 x4 H.size q11 h11) (va_cwS 2 hts gX6_wire_X6_isPort rfl rfl rfl (by decide +kernel) ⟨Nat.le_of_ble_eq_true rfl, Nat.le_of_ble_eq_true rfl⟩) (mP_S (Cut.nil _) hP hD hK hG) rfl rfl hl.1 rfl (lv_room (Nat.le_of_ble_eq_true rfl)) dX6_wire_11 ⟨Nat.le_refl _, Nat.le_refl _⟩) (Cut.nil _) hP hD hS hA (fun H locs hP hD hS => ?_)
    refine lv_if_eq (tgt := 21) hx hb dX6_wire_14 (by decide) (fun c14 => ?_) (fun c14 => ?_)
    · have hf := if_t c14 hf
      exact B21 _ _ _ _ _ _ hf H locs hP hD hS ls (lv_sub hl [0, 1, 2, 3, 4, 5] rfl)
    · have hf := if_f c14 hf
      refine lv_iconst (v := 1) hx hb dX6_wire_17 (by decide) ?_
      refine lv_goto (tgt := 22) hx hb dX6_wire_18 (by decide) ?_
      exact B22 _ _ _ _ _ _ _ hf H locs hP hD hS ls (lv_sub hl [0, 1, 2, 3, 4, 5] rfl)
set_option maxHeartbeats 4000000 in
set_option maxRecDepth 100000 in
theorem mX6_drops (l : Launch) (D : va_G) (cI cZ : ClassId) (A : Nat → Nat)  (mm : St) (x1 : Int32) (x2 : Int32) (sz : Nat) (res : St) (hf : fX6_drops mm x1 x2 = some res) : Met l yX6_drops wsX6_drops ({ frames := 0, cells := 0, slots := 0, locals := 0 }) (mP D (tysX cI cZ) [.ref (A 0), .int x1, .int x2] (wX6 cI cZ A mm) sz) (mQv D (wX6 cI cZ A mm) (wX6 cI cZ A res) sz) 0 0 (va_A (wX6 cI cZ A mm) sz) := by
  refine mkM_v (cc := cX6_drops) (maxL := 4) (own := RX6) (by decide +kernel) rfl rfl (Nat.le_of_ble_eq_true rfl) ?_
  intro p e s m args below meth c A0 Q S hK hG hA hR
  obtain ⟨hx, hb, hml, hown, hts⟩ := id S
  have k81 := hts (.fieldLink RX6 81 "SwitchFloorModel" "entries" "[I") (by decide +kernel)
  have iX6 : ∀ w ∈ wsX60, w ∈ wsX6_drops := by decide +kernel
  have k84 := hts (.fieldLink RX6 84 "SwitchFloorModel" "entryLane" "[I") (by decide +kernel)
  have k87 := hts (.fieldLink RX6 87 "SwitchFloorModel" "entryHouse" "[I") (by decide +kernel)
  have k90 := hts (.fieldLink RX6 90 "SwitchFloorModel" "entryPort" "[I") (by decide +kernel)
  have k93 := hts (.fieldLink RX6 93 "SwitchFloorModel" "entryBeat" "[I") (by decide +kernel)
  have B12 : ∀ (x1 : Int32) (mm : St) (x3 : Int32), fX6_drops_L12 x1 mm x3 = some res → Bk p l e ({ frames := 0, cells := 0, slots := 0, locals := 0 }) s m args below meth c Q A0 D 4 0 0 (wX6 cI cZ A mm) [(0, .ref (A 0)), (1, .int x1), (3, .int x3)] 12 [] := by
    intro x1 mm x3 hf
    refine loop_ind (step := (fun k a => fX6_drops_S12 k x1 (a.1) (a.2))) (fun a => Bk p l e ({ frames := 0, cells := 0, slots := 0, locals := 0 }) s m args below meth c Q A0 D 4 0 0 (wX6 cI cZ A (a.1)) [(0, .ref (A 0)), (1, .int x1), (3, .int (a.2))] 12 []) ?_ _ _ hf
    clear hf
    intro k12 hk12 a hf
    obtain ⟨mm_, x3_⟩ := a
    clear mm x3
    obtain ⟨mm, e_⟩ : ∃ z, z = mm_ := ⟨_, rfl⟩
    subst e_
    obtain ⟨x3, e_⟩ : ∃ z, z = x3_ := ⟨_, rfl⟩
    subst e_
    have hf : fX6_drops_S12 k12 x1 mm x3 = some res := hf
    show Bk p l e ({ frames := 0, cells := 0, slots := 0, locals := 0 }) s m args below meth c Q A0 D 4 0 0 (wX6 cI cZ A mm) [(0, .ref (A 0)), (1, .int x1), (3, .int x3)] 12 []
    unfold fX6_drops_S12 at hf
    intro H locs hP hD hS ls hl
    refine lv_iload_n hx hb dX6_drops_12 rfl (lv_at hl 2 rfl) ?_
    refine lv_bipush (v := 8) hx hb dX6_drops_13 (by decide) ?_
    refine lv_iload_n hx hb dX6_drops_15 rfl (lv_at hl 1 rfl) ?_
    refine lv_imul hx hb dX6_drops_16 ?_
    refine lv_aload_n hx hb dX6_drops_17 rfl (lv_at hl 0 rfl) ?_
    refine ld_f S iX6 hK hP 0 24 (.ref (A 23)) (gX6_0 _ _ _ _) rfl (by decide) k81 rfl rfl dX6_drops_18 ?_
    refine lv_iload_n hx hb dX6_drops_21 rfl (lv_at hl 1 rfl) ?_
    obtain ⟨c22, hf⟩ := ck_t hf
    refine va_iald (f := mm 24) hx hb hK hP 23 0 (gX6_23 _ _ _ _) rfl (inb_in c22) dX6_drops_22 ?_
    refine lv_iadd hx hb dX6_drops_23 ?_
    refine lv_icmp_ge (tgt := 89) hx hb dX6_drops_24 (by decide) (fun c24 => ?_) (fun c24 => ?_)
    · have hf := if_t c24 hf
      exact hR _ ls H locs _ (congrArg (fun q => (wX6 cI cZ A q)) (Option.some.inj hf)) dX6_drops_89 hP hD hS
    · have hf := if_f c24 hf
      refine lv_aload_n hx hb dX6_drops_27 rfl (lv_at hl 0 rfl) ?_
      refine ld_f S iX6 hK hP 0 25 (.ref (A 24)) (gX6_0 _ _ _ _) rfl (by decide) k84 rfl rfl dX6_drops_28 ?_
      refine lv_iload_n hx hb dX6_drops_31 rfl (lv_at hl 2 rfl) ?_
      refine lv_aload_n hx hb dX6_drops_32 rfl (lv_at hl 0 rfl) ?_
      refine ld_f S iX6 hK hP 0 25 (.ref (A 24)) (gX6_0 _ _ _ _) rfl (by decide) k84 rfl rfl dX6_drops_33 ?_
      refine lv_iload_n hx hb dX6_drops_36 rfl (lv_at hl 2 rfl) ?_
      refine lv_iconst (v := 1) hx hb dX6_drops_37 (by decide) ?_
      refine lv_iadd hx hb dX6_drops_38 ?_
      obtain ⟨c39, hf⟩ := ck_t hf
      refine va_iald (f := mm 25) hx hb hK hP 24 0 (gX6_24 _ _ _ _) rfl (inb_in c39) dX6_drops_39 ?_
      obtain ⟨c40, hf⟩ := ck_t hf
      refine st_i hx hb hK hP hD hS 24 0 (sX6_24 _ _ _ _ _ _) (gX6_24 _ _ _ _) rfl c40 dX6_drops_40 (fun H locs hP hD hS => ?_)
      refine lv_aload_n hx hb dX6_drops_41 rfl (lv_at hl 0 rfl) ?_
      refine ld_f S iX6 hK hP 0 26 (.ref (A 25)) (gX6_0 _ _ _ _) rfl (by decide) k87 rfl rfl dX6_drops_42 ?_
      refine lv_iload_n hx hb dX6_drops_45 rfl (lv_at hl 2 rfl) ?_
      refine lv_aload_n hx hb dX6_drops_46 rfl (lv_at hl 0 rfl) ?_
      refine ld_f S iX6 hK hP 0 26 (.ref (A 25)) (gX6_0 _ _ _ _) rfl (by decide) k87 rfl rfl dX6_drops_47 ?_
      refine lv_iload_n hx hb dX6_drops_50 rfl (lv_at hl 2 rfl) ?_
      refine lv_iconst (v := 1) hx hb dX6_drops_51 (by decide) ?_
      refine lv_iadd hx hb dX6_drops_52 ?_
      obtain ⟨c53, hf⟩ := ck_t hf
      refine va_iald (f := mm 26) hx hb hK hP 25 0 (gX6_25 _ _ _ _) rfl (inb_in c53) dX6_drops_53 ?_
      obtain ⟨c54, hf⟩ := ck_t hf
      refine st_i hx hb hK hP hD hS 25 0 (sX6_25 _ _ _ _ _ _) (gX6_25 _ _ _ _) rfl c54 dX6_drops_54 (fun H locs hP hD hS => ?_)
      refine lv_aload_n hx hb dX6_drops_55 rfl (lv_at hl 0 rfl) ?_
      refine ld_f S iX6 hK hP 0 27 (.ref (A 26)) (gX6_0 _ _ _ _) rfl (by decide) k90 rfl rfl dX6_drops_56 ?_
      refine lv_iload_n hx hb dX6_drops_59 rfl (lv_at hl 2 rfl) ?_
      refine lv_aload_n hx hb dX6_drops_60 rfl (lv_at hl 0 rfl) ?_
      refine ld_f S iX6 hK hP 0 27 (.ref (A 26)) (gX6_0 _ _ _ _) rfl (by decide) k90 rfl rfl dX6_drops_61 ?_
      refine lv_iload_n hx hb dX6_drops_64 rfl (lv_at hl 2 rfl) ?_
      refine lv_iconst (v := 1) hx hb dX6_drops_65 (by decide) ?_
      refine lv_iadd hx hb dX6_drops_66 ?_
      obtain ⟨c67, hf⟩ := ck_t hf
      refine va_iald (f := mm 27) hx hb hK hP 26 0 (gX6_26 _ _ _ _) rfl (inb_in c67) dX6_drops_67 ?_
      obtain ⟨c68, hf⟩ := ck_t hf
      refine st_i hx hb hK hP hD hS 26 0 (sX6_26 _ _ _ _ _ _) (gX6_26 _ _ _ _) rfl c68 dX6_drops_68 (fun H locs hP hD hS => ?_)
      refine lv_aload_n hx hb dX6_drops_69 rfl (lv_at hl 0 rfl) ?_
      refine ld_f S iX6 hK hP 0 28 (.ref (A 27)) (gX6_0 _ _ _ _) rfl (by decide) k93 rfl rfl dX6_drops_70 ?_
      refine lv_iload_n hx hb dX6_drops_73 rfl (lv_at hl 2 rfl) ?_
      refine lv_aload_n hx hb dX6_drops_74 rfl (lv_at hl 0 rfl) ?_
      refine ld_f S iX6 hK hP 0 28 (.ref (A 27)) (gX6_0 _ _ _ _) rfl (by decide) k93 rfl rfl dX6_drops_75 ?_
      refine lv_iload_n hx hb dX6_drops_78 rfl (lv_at hl 2 rfl) ?_
      refine lv_iconst (v := 1) hx hb dX6_drops_79 (by decide) ?_
      refine lv_iadd hx hb dX6_drops_80 ?_
      obtain ⟨c81, hf⟩ := ck_t hf
      refine va_iald (f := mm 28) hx hb hK hP 27 0 (gX6_27 _ _ _ _) rfl (inb_in c81) dX6_drops_81 ?_
      obtain ⟨c82, hf⟩ := ck_t hf
      refine st_i hx hb hK hP hD hS 27 0 (sX6_27 _ _ _ _ _ _) (gX6_27 _ _ _ _) rfl c82 dX6_drops_82 (fun H locs hP hD hS => ?_)
      refine lv_iinc (v := x3 + 1) (lv' := [(3, .int (x3 + 1)), (0, .ref (A 0)), (1, .int x1)]) hx hb dX6_drops_83 hl (k := 2) rfl rfl (by decide) rfl (fun ls hl => ?_)
      refine lv_goto (tgt := 12) hx hb dX6_drops_86 (by decide) ?_
      exact hk12 _ hf H locs hP hD hS ls (lv_sub hl [1, 2, 0] rfl)
  intro H locs hP hD hS ls hl
  have hl : lv_has ls 4 [(0, .ref (A 0)), (1, .int x1), (2, .int x2)] := hl
  unfold fX6_drops at hf
  refine lv_aload_n hx hb dX6_drops_0 rfl (lv_at hl 0 rfl) ?_
  refine ld_f S iX6 hK hP 0 24 (.ref (A 23)) (gX6_0 _ _ _ _) rfl (by decide) k81 rfl rfl dX6_drops_1 ?_
  refine lv_iload_n hx hb dX6_drops_4 rfl (lv_at hl 1 rfl) ?_
  refine lv_dup2_11 hx hb dX6_drops_5 rfl rfl ?_
  obtain ⟨c6, hf⟩ := ck_t hf
  refine va_iald (f := mm 24) hx hb hK hP 23 0 (gX6_23 _ _ _ _) rfl (inb_in c6) dX6_drops_6 ?_
  refine lv_iconst (v := 1) hx hb dX6_drops_7 (by decide) ?_
  refine lv_isub hx hb dX6_drops_8 ?_
  obtain ⟨c9, hf⟩ := ck_t hf
  refine st_i hx hb hK hP hD hS 23 0 (sX6_23 _ _ _ _ _ _) (gX6_23 _ _ _ _) rfl c9 dX6_drops_9 (fun H locs hP hD hS => ?_)
  refine lv_iload_n hx hb dX6_drops_10 rfl (lv_at hl 2 rfl) ?_
  refine lv_istore_n (lv' := [(3, .int x2), (0, .ref (A 0)), (1, .int x1), (2, .int x2)]) hx hb dX6_drops_11 rfl hl (by decide) rfl (fun ls hl => ?_)
  exact B12 _ _ _ hf H locs hP hD hS ls (lv_sub hl [1, 2, 0] rfl)
set_option maxHeartbeats 4000000 in
set_option maxRecDepth 100000 in
theorem mX6_forgets (l : Launch) (D : va_G) (cI cZ : ClassId) (A : Nat → Nat)  (mm : St) (x1 : Int32) (sz : Nat) (res : St) (hf : fX6_forgets mm x1 = some res) : Met l yX6_forgets wsX6_forgets ({ frames := 1, cells := 0, slots := 0, locals := 23 }) (mP D (tysX cI cZ) [.ref (A 0), .int x1] (wX6 cI cZ A mm) sz) (mQv D (wX6 cI cZ A mm) (wX6 cI cZ A res) sz) 0 0 (va_A (wX6 cI cZ A mm) sz) := by
  refine mkM_v (cc := cX6_forgets) (maxL := 4) (own := RX6) (by decide +kernel) rfl rfl (Nat.le_of_ble_eq_true rfl) ?_
  intro p e s m args below meth c A0 Q S hK hG hA hR
  obtain ⟨hx, hb, hml, hown, hts⟩ := id S
  have k81 := hts (.fieldLink RX6 81 "SwitchFloorModel" "entries" "[I") (by decide +kernel)
  have iX6 : ∀ w ∈ wsX60, w ∈ wsX6_forgets := by decide +kernel
  have k90 := hts (.fieldLink RX6 90 "SwitchFloorModel" "entryPort" "[I") (by decide +kernel)
  have B18 : ∀ (x1 : Int32) (x2 : Int32) (mm : St) (x3 : Int32), fX6_forgets_L18 x1 x2 mm x3 = some res → Bk p l e ({ frames := 1, cells := 0, slots := 0, locals := 23 }) s m args below meth c Q A0 D 4 0 0 (wX6 cI cZ A mm) [(0, .ref (A 0)), (1, .int x1), (2, .int x2), (3, .int x3)] 18 [] := by
    intro x1 x2 mm x3 hf
    refine loop_ind (step := (fun k a => fX6_forgets_S18 k x1 x2 (a.1) (a.2))) (fun a => Bk p l e ({ frames := 1, cells := 0, slots := 0, locals := 23 }) s m args below meth c Q A0 D 4 0 0 (wX6 cI cZ A (a.1)) [(0, .ref (A 0)), (1, .int x1), (2, .int x2), (3, .int (a.2))] 18 []) ?_ _ _ hf
    clear hf
    intro k18 hk18 a hf
    obtain ⟨mm_, x3_⟩ := a
    clear mm x3
    obtain ⟨mm, e_⟩ : ∃ z, z = mm_ := ⟨_, rfl⟩
    subst e_
    obtain ⟨x3, e_⟩ : ∃ z, z = x3_ := ⟨_, rfl⟩
    subst e_
    have hf : fX6_forgets_S18 k18 x1 x2 mm x3 = some res := hf
    show Bk p l e ({ frames := 1, cells := 0, slots := 0, locals := 23 }) s m args below meth c Q A0 D 4 0 0 (wX6 cI cZ A mm) [(0, .ref (A 0)), (1, .int x1), (2, .int x2), (3, .int x3)] 18 []
    unfold fX6_forgets_S18 at hf
    intro H locs hP hD hS ls hl
    refine lv_iload_n hx hb dX6_forgets_18 rfl (lv_at hl 3 rfl) ?_
    refine lv_bipush (v := 8) hx hb dX6_forgets_19 (by decide) ?_
    refine lv_iload_n hx hb dX6_forgets_21 rfl (lv_at hl 2 rfl) ?_
    refine lv_imul hx hb dX6_forgets_22 ?_
    refine lv_icmp_lt (tgt := 50) hx hb dX6_forgets_23 (by decide) (fun c23 => ?_) (fun c23 => ?_)
    · have hf := if_t c23 hf
      exact hR _ ls H locs _ (congrArg (fun q => (wX6 cI cZ A q)) (Option.some.inj hf)) dX6_forgets_50 hP hD hS
    · have hf := if_f c23 hf
      refine lv_aload_n hx hb dX6_forgets_26 rfl (lv_at hl 0 rfl) ?_
      refine ld_f S iX6 hK hP 0 27 (.ref (A 26)) (gX6_0 _ _ _ _) rfl (by decide) k90 rfl rfl dX6_forgets_27 ?_
      refine lv_iload_n hx hb dX6_forgets_30 rfl (lv_at hl 3 rfl) ?_
      obtain ⟨c31, hf⟩ := ck_t hf
      refine va_iald (f := mm 27) hx hb hK hP 26 0 (gX6_26 _ _ _ _) rfl (inb_in c31) dX6_forgets_31 ?_
      refine lv_iload_n hx hb dX6_forgets_32 rfl (lv_at hl 1 rfl) ?_
      refine lv_iconst (v := 5) hx hb dX6_forgets_33 (by decide) ?_
      refine lv_irem hx hb dX6_forgets_34 (by decide) ?_
      refine lv_icmp_ne (tgt := 44) hx hb dX6_forgets_35 (by decide) (fun c35 => ?_) (fun c35 => ?_)
      · have hf := if_f c35 hf
        refine lv_iinc (v := x3 + (-1)) (lv' := [(3, .int (x3 + (-1))), (0, .ref (A 0)), (1, .int x1), (2, .int x2)]) hx hb dX6_forgets_44 hl (k := 3) rfl rfl (by decide) rfl (fun ls hl => ?_)
        refine lv_goto (tgt := 18) hx hb dX6_forgets_47 (by decide) ?_
        exact hk18 _ hf H locs hP hD hS ls (lv_sub hl [1, 2, 3, 0] rfl)
      · have hf := if_t c35 hf
        refine lv_aload_n hx hb dX6_forgets_38 rfl (lv_at hl 0 rfl) ?_
        refine lv_iload_n hx hb dX6_forgets_39 rfl (lv_at hl 2 rfl) ?_
        refine lv_iload_n hx hb dX6_forgets_40 rfl (lv_at hl 3 rfl) ?_
        obtain ⟨q41, h41, hf⟩ := bd_t hf
        refine cl_v (va_runV (As := [.int x2, .int x3]) (rest := []) S (mX6_drops l D cI cZ A mm x2 x3 H.size q41 h41) (cwV 2 hts gX6_forgets_X6_drops rfl rfl rfl (by decide +kernel) ⟨Nat.le_of_ble_eq_true rfl, Nat.le_of_ble_eq_true rfl⟩) (mP_V (ci := 6) (Cut.self _ []) hP hD hK hG rfl (gX6_0 _ _ _ _)) rfl rfl hl.1 rfl (lv_room (Nat.le_of_ble_eq_true rfl)) dX6_forgets_41 ⟨Nat.le_refl _, Nat.le_refl _⟩) (Cut.self _ _) hP hD hS hA (fun H locs hP hD hS => ?_)
        refine lv_iinc (v := x3 + (-1)) (lv' := [(3, .int (x3 + (-1))), (0, .ref (A 0)), (1, .int x1), (2, .int x2)]) hx hb dX6_forgets_44 hl (k := 3) rfl rfl (by decide) rfl (fun ls hl => ?_)
        refine lv_goto (tgt := 18) hx hb dX6_forgets_47 (by decide) ?_
        exact hk18 _ hf H locs hP hD hS ls (lv_sub hl [1, 2, 3, 0] rfl)
  intro H locs hP hD hS ls hl
  have hl : lv_has ls 4 [(0, .ref (A 0)), (1, .int x1)] := hl
  unfold fX6_forgets at hf
  refine lv_iload_n hx hb dX6_forgets_0 rfl (lv_at hl 1 rfl) ?_
  refine lv_iconst (v := 5) hx hb dX6_forgets_1 (by decide) ?_
  refine lv_idiv hx hb dX6_forgets_2 (by decide) ?_
  refine lv_istore_n (lv' := [(2, .int (x1 / 5)), (0, .ref (A 0)), (1, .int x1)]) hx hb dX6_forgets_3 rfl hl (by decide) rfl (fun ls hl => ?_)
  refine lv_bipush (v := 8) hx hb dX6_forgets_4 (by decide) ?_
  refine lv_iload_n hx hb dX6_forgets_6 rfl (lv_at hl 0 rfl) ?_
  refine lv_imul hx hb dX6_forgets_7 ?_
  refine lv_aload_n hx hb dX6_forgets_8 rfl (lv_at hl 1 rfl) ?_
  refine ld_f S iX6 hK hP 0 24 (.ref (A 23)) (gX6_0 _ _ _ _) rfl (by decide) k81 rfl rfl dX6_forgets_9 ?_
  refine lv_iload_n hx hb dX6_forgets_12 rfl (lv_at hl 0 rfl) ?_
  obtain ⟨c13, hf⟩ := ck_t hf
  refine va_iald (f := mm 24) hx hb hK hP 23 0 (gX6_23 _ _ _ _) rfl (inb_in c13) dX6_forgets_13 ?_
  refine lv_iadd hx hb dX6_forgets_14 ?_
  refine lv_iconst (v := 1) hx hb dX6_forgets_15 (by decide) ?_
  refine lv_isub hx hb dX6_forgets_16 ?_
  refine lv_istore_n (lv' := [(3, .int (((8 * (x1 / 5)) + (mm 24 (x1 / 5).toNatClampNeg)) - 1)), (2, .int (x1 / 5)), (0, .ref (A 0)), (1, .int x1)]) hx hb dX6_forgets_17 rfl hl (by decide) rfl (fun ls hl => ?_)
  exact B18 _ _ _ _ hf H locs hP hD hS ls (lv_sub hl [2, 3, 1, 0] rfl)
set_option maxHeartbeats 4000000 in
set_option maxRecDepth 100000 in
theorem mX6_shuts (l : Launch) (D : va_G) (cI cZ : ClassId) (A : Nat → Nat)  (mm : St) (x1 : Int32) (sz : Nat) (res : St) (hf : fX6_shuts mm x1 = some res) : Met l yX6_shuts wsX6_shuts ({ frames := 2, cells := 0, slots := 0, locals := 46 }) (mP D (tysX cI cZ) [.ref (A 0), .int x1] (wX6 cI cZ A mm) sz) (mQv D (wX6 cI cZ A mm) (wX6 cI cZ A res) sz) 0 0 (va_A (wX6 cI cZ A mm) sz) := by
  refine mkM_v (cc := cX6_shuts) (maxL := 2) (own := RX6) (by decide +kernel) rfl rfl (Nat.le_of_ble_eq_true rfl) ?_
  intro p e s m args below meth c A0 Q S hK hG hA hR
  obtain ⟨hx, hb, hml, hown, hts⟩ := id S
  have k39 := hts (.fieldLink RX6 39 "SwitchFloorModel" "isShut" "[Z") (by decide +kernel)
  have iX6 : ∀ w ∈ wsX60, w ∈ wsX6_shuts := by decide +kernel
  intro H locs hP hD hS ls hl
  have hl : lv_has ls 2 [(0, .ref (A 0)), (1, .int x1)] := hl
  unfold fX6_shuts at hf
  refine lv_aload_n hx hb dX6_shuts_0 rfl (lv_at hl 0 rfl) ?_
  refine ld_f S iX6 hK hP 0 10 (.ref (A 9)) (gX6_0 _ _ _ _) rfl (by decide) k39 rfl rfl dX6_shuts_1 ?_
  refine lv_iload_n hx hb dX6_shuts_4 rfl (lv_at hl 1 rfl) ?_
  refine lv_iconst (v := 1) hx hb dX6_shuts_5 (by decide) ?_
  obtain ⟨c6, hf⟩ := ck_t hf
  refine st_z hx hb hK hP hD hS 9 1 (sX6_9 _ _ _ _ _ _) (gX6_9 _ _ _ _) rfl c6 dX6_shuts_6 (fun H locs hP hD hS => ?_)
  refine lv_aload_n hx hb dX6_shuts_7 rfl (lv_at hl 0 rfl) ?_
  refine lv_iload_n hx hb dX6_shuts_8 rfl (lv_at hl 1 rfl) ?_
  obtain ⟨q9, h9, hf⟩ := bd_t hf
  refine cl_v (va_runV (As := [.int x1]) (rest := []) S (mX6_begins l D cI cZ A (aS mm 10 x1 (vp_nar .boolean 1)) x1 H.size q9 h9) (cwV 1 hts gX6_shuts_X6_begins rfl rfl rfl (by decide +kernel) ⟨Nat.le_of_ble_eq_true rfl, Nat.le_of_ble_eq_true rfl⟩) (mP_V (ci := 6) (Cut.self _ []) hP hD hK hG rfl (gX6_0 _ _ _ _)) rfl rfl hl.1 rfl (lv_room (Nat.le_of_ble_eq_true rfl)) dX6_shuts_9 ⟨Nat.le_refl _, Nat.le_refl _⟩) (Cut.self _ _) hP hD hS hA (fun H locs hP hD hS => ?_)
  refine lv_aload_n hx hb dX6_shuts_12 rfl (lv_at hl 0 rfl) ?_
  refine lv_iload_n hx hb dX6_shuts_13 rfl (lv_at hl 1 rfl) ?_
  obtain ⟨q14, h14, hf⟩ := bd_t hf
  refine cl_v (va_runV (As := [.int x1]) (rest := []) S (mX6_forgets l D cI cZ A q9 x1 H.size q14 h14) (cwV 1 hts gX6_shuts_X6_forgets rfl rfl rfl (by decide +kernel) ⟨Nat.le_of_ble_eq_true rfl, Nat.le_of_ble_eq_true rfl⟩) (mP_V (ci := 6) (Cut.self _ []) hP hD hK hG rfl (gX6_0 _ _ _ _)) rfl rfl hl.1 rfl (lv_room (Nat.le_of_ble_eq_true rfl)) dX6_shuts_14 ⟨Nat.le_refl _, Nat.le_refl _⟩) (Cut.self _ _) hP hD hS hA (fun H locs hP hD hS => ?_)
  exact hR _ ls H locs _ (congrArg (fun q => (wX6 cI cZ A q)) (Option.some.inj hf)) dX6_shuts_17 hP hD hS
set_option maxHeartbeats 4000000 in
set_option maxRecDepth 100000 in
theorem mX6_frees (l : Launch) (D : va_G) (cI cZ : ClassId) (A : Nat → Nat)  (mm : St) (x1 : Int32) (sz : Nat) (res : St) (hf : fX6_frees mm x1 = some res) : Met l yX6_frees wsX6_frees ({ frames := 0, cells := 0, slots := 0, locals := 0 }) (mP D (tysX cI cZ) [.ref (A 0), .int x1] (wX6 cI cZ A mm) sz) (mQv D (wX6 cI cZ A mm) (wX6 cI cZ A res) sz) 0 0 (va_A (wX6 cI cZ A mm) sz) := by
  refine mkM_v (cc := cX6_frees) (maxL := 2) (own := RX6) (by decide +kernel) rfl rfl (Nat.le_of_ble_eq_true rfl) ?_
  intro p e s m args below meth c A0 Q S hK hG hA hR
  obtain ⟨hx, hb, hml, hown, hts⟩ := id S
  have k39 := hts (.fieldLink RX6 39 "SwitchFloorModel" "isShut" "[Z") (by decide +kernel)
  have iX6 : ∀ w ∈ wsX60, w ∈ wsX6_frees := by decide +kernel
  have k42 := hts (.fieldLink RX6 42 "SwitchFloorModel" "stormEnd" "[I") (by decide +kernel)
  have k45 := hts (.fieldLink RX6 45 "SwitchFloorModel" "isOpen" "[Z") (by decide +kernel)
  have k23 := hts (.fieldLink RX6 23 "SwitchFloorModel" "house" "[I") (by decide +kernel)
  have B34 : ∀ (mm : St) (y0 : Int32) (y1 : Int32), fX6_frees_J34 mm y0 y1 = some res → Bk p l e ({ frames := 0, cells := 0, slots := 0, locals := 0 }) s m args below meth c Q A0 D 2 0 0 (wX6 cI cZ A mm) [] 34 [.int y0, .int y1, .ref (A 11)] := by
    intro mm y0 y1 hf
    unfold fX6_frees_J34 at hf
    intro H locs hP hD hS ls hl
    obtain ⟨c34, hf⟩ := ck_t hf
    refine st_z hx hb hK hP hD hS 11 1 (sX6_11 _ _ _ _ _ _) (gX6_11 _ _ _ _) rfl c34 dX6_frees_34 (fun H locs hP hD hS => ?_)
    exact hR _ ls H locs _ (congrArg (fun q => (wX6 cI cZ A q)) (Option.some.inj hf)) dX6_frees_35 hP hD hS
  intro H locs hP hD hS ls hl
  have hl : lv_has ls 2 [(0, .ref (A 0)), (1, .int x1)] := hl
  unfold fX6_frees at hf
  refine lv_aload_n hx hb dX6_frees_0 rfl (lv_at hl 0 rfl) ?_
  refine ld_f S iX6 hK hP 0 10 (.ref (A 9)) (gX6_0 _ _ _ _) rfl (by decide) k39 rfl rfl dX6_frees_1 ?_
  refine lv_iload_n hx hb dX6_frees_4 rfl (lv_at hl 1 rfl) ?_
  refine lv_iconst (v := 0) hx hb dX6_frees_5 (by decide) ?_
  obtain ⟨c6, hf⟩ := ck_t hf
  refine st_z hx hb hK hP hD hS 9 1 (sX6_9 _ _ _ _ _ _) (gX6_9 _ _ _ _) rfl c6 dX6_frees_6 (fun H locs hP hD hS => ?_)
  refine lv_aload_n hx hb dX6_frees_7 rfl (lv_at hl 0 rfl) ?_
  refine ld_f S iX6 hK hP 0 11 (.ref (A 10)) (gX6_0 _ _ _ _) rfl (by decide) k42 rfl rfl dX6_frees_8 ?_
  refine lv_iload_n hx hb dX6_frees_11 rfl (lv_at hl 1 rfl) ?_
  refine lv_iconst (v := 0) hx hb dX6_frees_12 (by decide) ?_
  obtain ⟨c13, hf⟩ := ck_t hf
  refine st_i hx hb hK hP hD hS 10 0 (sX6_10 _ _ _ _ _ _) (gX6_10 _ _ _ _) rfl c13 dX6_frees_13 (fun H locs hP hD hS => ?_)
  refine lv_aload_n hx hb dX6_frees_14 rfl (lv_at hl 0 rfl) ?_
  refine ld_f S iX6 hK hP 0 12 (.ref (A 11)) (gX6_0 _ _ _ _) rfl (by decide) k45 rfl rfl dX6_frees_15 ?_
  refine lv_iload_n hx hb dX6_frees_18 rfl (lv_at hl 1 rfl) ?_
  refine lv_aload_n hx hb dX6_frees_19 rfl (lv_at hl 0 rfl) ?_
  refine ld_f S iX6 hK hP 0 5 (.ref (A 4)) (gX6_0 _ _ _ _) rfl (by decide) k23 rfl rfl dX6_frees_20 ?_
  refine lv_iload_n hx hb dX6_frees_23 rfl (lv_at hl 1 rfl) ?_
  obtain ⟨c24, hf⟩ := ck_t hf
  refine va_iald (f := mm 5) hx hb hK hP 4 0 (gX6_4 _ _ _ _) rfl (inb_in c24) dX6_frees_24 ?_
  refine lv_iconst (v := (-1)) hx hb dX6_frees_25 (by decide) ?_
  refine lv_icmp_eq (tgt := 33) hx hb dX6_frees_26 (by decide) (fun c26 => ?_) (fun c26 => ?_)
  · have hf := if_t c26 hf
    refine lv_iconst (v := 0) hx hb dX6_frees_33 (by decide) ?_
    exact B34 _ _ _ hf H locs hP hD hS ls (lv_sub hl [] rfl)
  · have hf := if_f c26 hf
    refine lv_iconst (v := 1) hx hb dX6_frees_29 (by decide) ?_
    refine lv_goto (tgt := 34) hx hb dX6_frees_30 (by decide) ?_
    exact B34 _ _ _ hf H locs hP hD hS ls (lv_sub hl [] rfl)
set_option maxHeartbeats 4000000 in
set_option maxRecDepth 100000 in
theorem mX6_free (l : Launch) (D : va_G) (cI cZ : ClassId) (A : Nat → Nat)  (mm : St) (x1 : Int32) (x2 : Int32) (sz : Nat) (res : Int32 × St) (hf : fX6_free mm x1 x2 = some res) : Met l yX6_free wsX6_free ({ frames := 3, cells := 0, slots := 0, locals := 63 }) (mP D (tysX cI cZ) [.ref (A 0), .int x1, .int x2] (wX6 cI cZ A mm) sz) (mQi D res.1 (wX6 cI cZ A mm) (wX6 cI cZ A (res.2)) sz) 0 0 (va_A (wX6 cI cZ A mm) sz) := by
  refine mkM_i (cc := cX6_free) (maxL := 7) (own := RX6) (by decide +kernel) rfl rfl (Nat.le_of_ble_eq_true rfl) ?_
  intro p e s m args below meth c A0 Q S hK hG hA hR
  obtain ⟨hx, hb, hml, hown, hts⟩ := id S
  have k23 := hts (.fieldLink RX6 23 "SwitchFloorModel" "house" "[I") (by decide +kernel)
  have iX6 : ∀ w ∈ wsX60, w ∈ wsX6_free := by decide +kernel
  have k17 := hts (.fieldLink RX6 17 "SwitchFloorModel" "wire" "[I") (by decide +kernel)
  have B36 : ∀ (mm : St) (x4 : Int32) (y0 : Int32), fX6_free_J36 mm x4 y0 = some res → Bk p l e ({ frames := 3, cells := 0, slots := 0, locals := 63 }) s m args below meth c Q A0 D 7 0 0 (wX6 cI cZ A mm) [(0, .ref (A 0)), (4, .int x4)] 36 [.int y0, .ref (A 0)] := by
    intro mm x4 y0 hf
    unfold fX6_free_J36 at hf
    intro H locs hP hD hS ls hl
    obtain ⟨q36, h36, hf⟩ := bd_t hf
    refine cl_i (va_runV (As := [.int y0]) (rest := []) S (mX6_fails l D cI cZ A mm y0 H.size q36 h36) (cwV 1 hts gX6_free_X6_fails rfl rfl rfl (by decide +kernel) ⟨Nat.le_of_ble_eq_true rfl, Nat.le_of_ble_eq_true rfl⟩) (mP_V (ci := 6) (Cut.self _ []) hP hD hK hG rfl (gX6_0 _ _ _ _)) rfl rfl hl.1 rfl (lv_room (Nat.le_of_ble_eq_true rfl)) dX6_free_36 ⟨Nat.le_refl _, Nat.le_refl _⟩) (Cut.self _ _) hP hD hS hA (fun H locs hP hD hS => ?_)
    refine lv_if_eq (tgt := 44) hx hb dX6_free_39 (by decide) (fun c39 => ?_) (fun c39 => ?_)
    · have hf := if_t c39 hf
      refine lv_aload_n hx hb dX6_free_44 rfl (lv_at hl 0 rfl) ?_
      refine ld_f S iX6 hK hP 0 5 (.ref (A 4)) (gX6_0 _ _ _ _) rfl (by decide) k23 rfl rfl dX6_free_45 ?_
      refine lv_iload hx hb dX6_free_48 (lv_at hl 1 rfl) ?_
      obtain ⟨c50, hf⟩ := ck_t hf
      refine va_iald (f := (q36.2) 5) hx hb hK hP 4 0 (gX6_4 _ _ _ _) rfl (inb_in c50) dX6_free_50 ?_
      refine lv_istore (lv' := [(5, .int ((q36.2) 5 x4.toNatClampNeg)), (0, .ref (A 0)), (4, .int x4)]) hx hb dX6_free_51 hl (by decide) rfl (fun ls hl => ?_)
      refine lv_aload_n hx hb dX6_free_53 rfl (lv_at hl 1 rfl) ?_
      refine ld_f S iX6 hK hP 0 3 (.ref (A 2)) (gX6_0 _ _ _ _) rfl (by decide) k17 rfl rfl dX6_free_54 ?_
      refine lv_iload hx hb dX6_free_57 (lv_at hl 2 rfl) ?_
      obtain ⟨c59, hf⟩ := ck_t hf
      refine va_iald (f := (q36.2) 3) hx hb hK hP 2 0 (gX6_2 _ _ _ _) rfl (inb_in c59) dX6_free_59 ?_
      refine lv_istore (lv' := [(6, .int ((q36.2) 3 x4.toNatClampNeg)), (5, .int ((q36.2) 5 x4.toNatClampNeg)), (0, .ref (A 0)), (4, .int x4)]) hx hb dX6_free_60 hl (by decide) rfl (fun ls hl => ?_)
      refine lv_aload_n hx hb dX6_free_62 rfl (lv_at hl 2 rfl) ?_
      refine ld_f S iX6 hK hP 0 5 (.ref (A 4)) (gX6_0 _ _ _ _) rfl (by decide) k23 rfl rfl dX6_free_63 ?_
      refine lv_iload hx hb dX6_free_66 (lv_at hl 3 rfl) ?_
      refine lv_iconst (v := (-1)) hx hb dX6_free_68 (by decide) ?_
      obtain ⟨c69, hf⟩ := ck_t hf
      refine st_i hx hb hK hP hD hS 4 0 (sX6_4 _ _ _ _ _ _) (gX6_4 _ _ _ _) rfl c69 dX6_free_69 (fun H locs hP hD hS => ?_)
      refine lv_aload_n hx hb dX6_free_70 rfl (lv_at hl 2 rfl) ?_
      refine ld_f S iX6 hK hP 0 3 (.ref (A 2)) (gX6_0 _ _ _ _) rfl (by decide) k17 rfl rfl dX6_free_71 ?_
      refine lv_iload hx hb dX6_free_74 (lv_at hl 3 rfl) ?_
      refine lv_iconst (v := (-1)) hx hb dX6_free_76 (by decide) ?_
      obtain ⟨c77, hf⟩ := ck_t hf
      refine st_i hx hb hK hP hD hS 2 0 (sX6_2 _ _ _ _ _ _) (gX6_2 _ _ _ _) rfl c77 dX6_free_77 (fun H locs hP hD hS => ?_)
      refine lv_aload_n hx hb dX6_free_78 rfl (lv_at hl 2 rfl) ?_
      refine lv_iload hx hb dX6_free_79 (lv_at hl 3 rfl) ?_
      obtain ⟨q81, h81, hf⟩ := bd_t hf
      refine cl_v (va_runV (As := [.int x4]) (rest := []) S (mX6_begins l D cI cZ A (aS (aS (q36.2) 5 x4 (-1)) 3 x4 (-1)) x4 H.size q81 h81) (cwV 1 hts gX6_free_X6_begins rfl rfl rfl (by decide +kernel) ⟨Nat.le_of_ble_eq_true rfl, Nat.le_of_ble_eq_true rfl⟩) (mP_V (ci := 6) (Cut.self _ []) hP hD hK hG rfl (gX6_0 _ _ _ _)) rfl rfl hl.1 rfl (lv_room (Nat.le_of_ble_eq_true rfl)) dX6_free_81 ⟨Nat.le_refl _, Nat.le_refl _⟩) (Cut.self _ _) hP hD hS hA (fun H locs hP hD hS => ?_)
      refine lv_aload_n hx hb dX6_free_84 rfl (lv_at hl 2 rfl) ?_
      refine lv_iload hx hb dX6_free_85 (lv_at hl 3 rfl) ?_
      obtain ⟨q87, h87, hf⟩ := bd_t hf
      refine cl_v (va_runV (As := [.int x4]) (rest := []) S (mX6_forgets l D cI cZ A q81 x4 H.size q87 h87) (cwV 1 hts gX6_free_X6_forgets rfl rfl rfl (by decide +kernel) ⟨Nat.le_of_ble_eq_true rfl, Nat.le_of_ble_eq_true rfl⟩) (mP_V (ci := 6) (Cut.self _ []) hP hD hK hG rfl (gX6_0 _ _ _ _)) rfl rfl hl.1 rfl (lv_room (Nat.le_of_ble_eq_true rfl)) dX6_free_87 ⟨Nat.le_refl _, Nat.le_refl _⟩) (Cut.self _ _) hP hD hS hA (fun H locs hP hD hS => ?_)
      refine lv_iload hx hb dX6_free_90 (lv_at hl 0 rfl) ?_
      refine lv_iconst (v := (-1)) hx hb dX6_free_92 (by decide) ?_
      refine lv_icmp_eq (tgt := 116) hx hb dX6_free_93 (by decide) (fun c93 => ?_) (fun c93 => ?_)
      · have hf := if_t c93 hf
        refine lv_iload hx hb dX6_free_116 (lv_at hl 1 rfl) ?_
        exact hR _ ls H locs _ _ (congrArg (fun q => q.1) (Option.some.inj hf)) (congrArg (fun q => (wX6 cI cZ A (q.2))) (Option.some.inj hf)) rfl dX6_free_118 hP hD hS
      · have hf := if_f c93 hf
        refine lv_aload_n hx hb dX6_free_96 rfl (lv_at hl 2 rfl) ?_
        refine ld_f S iX6 hK hP 0 3 (.ref (A 2)) (gX6_0 _ _ _ _) rfl (by decide) k17 rfl rfl dX6_free_97 ?_
        refine lv_iload hx hb dX6_free_100 (lv_at hl 0 rfl) ?_
        refine lv_iconst (v := (-1)) hx hb dX6_free_102 (by decide) ?_
        obtain ⟨c103, hf⟩ := ck_t hf
        refine st_i hx hb hK hP hD hS 2 0 (sX6_2 _ _ _ _ _ _) (gX6_2 _ _ _ _) rfl c103 dX6_free_103 (fun H locs hP hD hS => ?_)
        refine lv_aload_n hx hb dX6_free_104 rfl (lv_at hl 2 rfl) ?_
        refine lv_iload hx hb dX6_free_105 (lv_at hl 0 rfl) ?_
        obtain ⟨q107, h107, hf⟩ := bd_t hf
        refine cl_v (va_runV (As := [.int ((q36.2) 3 x4.toNatClampNeg)]) (rest := []) S (mX6_begins l D cI cZ A (aS q87 3 ((q36.2) 3 x4.toNatClampNeg) (-1)) ((q36.2) 3 x4.toNatClampNeg) H.size q107 h107) (cwV 1 hts gX6_free_X6_begins rfl rfl rfl (by decide +kernel) ⟨Nat.le_of_ble_eq_true rfl, Nat.le_of_ble_eq_true rfl⟩) (mP_V (ci := 6) (Cut.self _ []) hP hD hK hG rfl (gX6_0 _ _ _ _)) rfl rfl hl.1 rfl (lv_room (Nat.le_of_ble_eq_true rfl)) dX6_free_107 ⟨Nat.le_refl _, Nat.le_refl _⟩) (Cut.self _ _) hP hD hS hA (fun H locs hP hD hS => ?_)
        refine lv_aload_n hx hb dX6_free_110 rfl (lv_at hl 2 rfl) ?_
        refine lv_iload hx hb dX6_free_111 (lv_at hl 0 rfl) ?_
        obtain ⟨q113, h113, hf⟩ := bd_t hf
        refine cl_v (va_runV (As := [.int ((q36.2) 3 x4.toNatClampNeg)]) (rest := []) S (mX6_forgets l D cI cZ A q107 ((q36.2) 3 x4.toNatClampNeg) H.size q113 h113) (cwV 1 hts gX6_free_X6_forgets rfl rfl rfl (by decide +kernel) ⟨Nat.le_of_ble_eq_true rfl, Nat.le_of_ble_eq_true rfl⟩) (mP_V (ci := 6) (Cut.self _ []) hP hD hK hG rfl (gX6_0 _ _ _ _)) rfl rfl hl.1 rfl (lv_room (Nat.le_of_ble_eq_true rfl)) dX6_free_113 ⟨Nat.le_refl _, Nat.le_refl _⟩) (Cut.self _ _) hP hD hS hA (fun H locs hP hD hS => ?_)
        refine lv_iload hx hb dX6_free_116 (lv_at hl 1 rfl) ?_
        exact hR _ ls H locs _ _ (congrArg (fun q => q.1) (Option.some.inj hf)) (congrArg (fun q => (wX6 cI cZ A (q.2))) (Option.some.inj hf)) rfl dX6_free_118 hP hD hS
    · have hf := if_f c39 hf
      refine lv_iconst (v := 0) hx hb dX6_free_42 (by decide) ?_
      exact hR _ ls H locs _ _ (congrArg (fun q => q.1) (Option.some.inj hf)) (congrArg (fun q => (wX6 cI cZ A (q.2))) (Option.some.inj hf)) rfl dX6_free_43 hP hD hS
  intro H locs hP hD hS ls hl
  have hl : lv_has ls 7 [(0, .ref (A 0)), (1, .int x1), (2, .int x2)] := hl
  unfold fX6_free at hf
  refine lv_iload_n hx hb dX6_free_0 rfl (lv_at hl 1 rfl) ?_
  refine lv_iload_n hx hb dX6_free_1 rfl (lv_at hl 2 rfl) ?_
  obtain ⟨q2, h2, hf⟩ := bd_t hf
  refine cl_i (va_runS (As := [.int x1, .int x2]) (rest := []) S (mX6_isPort l D cI cZ x1 x2 H.size q2 h2) (va_cwS 2 hts gX6_free_X6_isPort rfl rfl rfl (by decide +kernel) ⟨Nat.le_of_ble_eq_true rfl, Nat.le_of_ble_eq_true rfl⟩) (mP_S (Cut.nil _) hP hD hK hG) rfl rfl hl.1 rfl (lv_room (Nat.le_of_ble_eq_true rfl)) dX6_free_2 ⟨Nat.le_refl _, Nat.le_refl _⟩) (Cut.nil _) hP hD hS hA (fun H locs hP hD hS => ?_)
  refine lv_istore_n (lv' := [(3, .int q2), (0, .ref (A 0)), (1, .int x1), (2, .int x2)]) hx hb dX6_free_5 rfl hl (by decide) rfl (fun ls hl => ?_)
  refine lv_iconst (v := 5) hx hb dX6_free_6 (by decide) ?_
  refine lv_iload_n hx hb dX6_free_7 rfl (lv_at hl 2 rfl) ?_
  refine lv_imul hx hb dX6_free_8 ?_
  refine lv_iload_n hx hb dX6_free_9 rfl (lv_at hl 3 rfl) ?_
  refine lv_iadd hx hb dX6_free_10 ?_
  refine lv_istore (lv' := [(4, .int ((5 * x1) + x2)), (3, .int q2), (0, .ref (A 0)), (1, .int x1), (2, .int x2)]) hx hb dX6_free_11 hl (by decide) rfl (fun ls hl => ?_)
  refine lv_aload_n hx hb dX6_free_13 rfl (lv_at hl 2 rfl) ?_
  refine lv_iload_n hx hb dX6_free_14 rfl (lv_at hl 1 rfl) ?_
  refine lv_if_ne (tgt := 22) hx hb dX6_free_15 (by decide) (fun c15 => ?_) (fun c15 => ?_)
  · have hf := if_f c15 hf
    refine lv_aload_n hx hb dX6_free_22 rfl (lv_at hl 2 rfl) ?_
    refine lv_iload hx hb dX6_free_23 (lv_at hl 0 rfl) ?_
    obtain ⟨q25, h25, hf⟩ := bd_t hf
    refine cl_i (va_runV (As := [.int ((5 * x1) + x2)]) (rest := [.ref (A 0)]) S (mX6_isUsed l D cI cZ A mm ((5 * x1) + x2) H.size q25 h25) (cwV 1 hts gX6_free_X6_isUsed rfl rfl rfl (by decide +kernel) ⟨Nat.le_of_ble_eq_true rfl, Nat.le_of_ble_eq_true rfl⟩) (mP_V (ci := 6) (Cut.self _ []) hP hD hK hG rfl (gX6_0 _ _ _ _)) rfl rfl hl.1 rfl (lv_room (Nat.le_of_ble_eq_true rfl)) dX6_free_25 ⟨Nat.le_refl _, Nat.le_refl _⟩) (Cut.self _ _) hP hD hS hA (fun H locs hP hD hS => ?_)
    refine lv_if_eq (tgt := 35) hx hb dX6_free_28 (by decide) (fun c28 => ?_) (fun c28 => ?_)
    · have hf := if_t c28 hf
      refine lv_iconst (v := 2) hx hb dX6_free_35 (by decide) ?_
      exact B36 _ _ _ hf H locs hP hD hS ls (lv_sub hl [2, 0] rfl)
    · have hf := if_f c28 hf
      refine lv_iconst (v := 0) hx hb dX6_free_31 (by decide) ?_
      refine lv_goto (tgt := 36) hx hb dX6_free_32 (by decide) ?_
      exact B36 _ _ _ hf H locs hP hD hS ls (lv_sub hl [2, 0] rfl)
  · have hf := if_t c15 hf
    refine lv_iconst (v := 1) hx hb dX6_free_18 (by decide) ?_
    refine lv_goto (tgt := 36) hx hb dX6_free_19 (by decide) ?_
    exact B36 _ _ _ hf H locs hP hD hS ls (lv_sub hl [2, 0] rfl)
set_option maxHeartbeats 4000000 in
set_option maxRecDepth 100000 in
theorem mX6_house (l : Launch) (D : va_G) (cI cZ : ClassId) (A : Nat → Nat)  (mm : St) (x1 : Int32) (x2 : Int32) (x3 : Int32) (sz : Nat) (res : Int32 × St) (hf : fX6_house mm x1 x2 x3 = some res) : Met l yX6_house wsX6_house ({ frames := 3, cells := 0, slots := 0, locals := 63 }) (mP D (tysX cI cZ) [.ref (A 0), .int x1, .int x2, .int x3] (wX6 cI cZ A mm) sz) (mQi D res.1 (wX6 cI cZ A mm) (wX6 cI cZ A (res.2)) sz) 0 0 (va_A (wX6 cI cZ A mm) sz) := by
  refine mkM_i (cc := cX6_house) (maxL := 9) (own := RX6) (by decide +kernel) rfl rfl (Nat.le_of_ble_eq_true rfl) ?_
  intro p e s m args below meth c A0 Q S hK hG hA hR
  obtain ⟨hx, hb, hml, hown, hts⟩ := id S
  have k23 := hts (.fieldLink RX6 23 "SwitchFloorModel" "house" "[I") (by decide +kernel)
  have iX6 : ∀ w ∈ wsX60, w ∈ wsX6_house := by decide +kernel
  have k45 := hts (.fieldLink RX6 45 "SwitchFloorModel" "isOpen" "[Z") (by decide +kernel)
  have k39 := hts (.fieldLink RX6 39 "SwitchFloorModel" "isShut" "[Z") (by decide +kernel)
  have B167 : ∀ (mm : St) (x7 : Int32) (y0 : Int32) (y1 : Int32), fX6_house_J167 mm x7 y0 y1 = some res → Bk p l e ({ frames := 3, cells := 0, slots := 0, locals := 63 }) s m args below meth c Q A0 D 9 0 0 (wX6 cI cZ A mm) [(7, .int x7)] 167 [.int y0, .int y1, .ref (A 11)] := by
    intro mm x7 y0 y1 hf
    unfold fX6_house_J167 at hf
    intro H locs hP hD hS ls hl
    obtain ⟨c167, hf⟩ := ck_t hf
    refine st_z hx hb hK hP hD hS 11 1 (sX6_11 _ _ _ _ _ _) (gX6_11 _ _ _ _) rfl c167 dX6_house_167 (fun H locs hP hD hS => ?_)
    refine lv_iload hx hb dX6_house_168 (lv_at hl 0 rfl) ?_
    exact hR _ ls H locs _ _ (congrArg (fun q => q.1) (Option.some.inj hf)) (congrArg (fun q => (wX6 cI cZ A (q.2))) (Option.some.inj hf)) rfl dX6_house_170 hP hD hS
  have B124 : ∀ (mm : St) (x3 : Int32) (x5 : Int32) (x7 : Int32) (y0 : Int32), fX6_house_J124 mm x3 x5 x7 y0 = some res → Bk p l e ({ frames := 3, cells := 0, slots := 0, locals := 63 }) s m args below meth c Q A0 D 9 0 0 (wX6 cI cZ A mm) [(0, .ref (A 0)), (3, .int x3), (5, .int x5), (7, .int x7)] 124 [.int y0, .ref (A 0)] := by
    intro mm x3 x5 x7 y0 hf
    unfold fX6_house_J124 at hf
    intro H locs hP hD hS ls hl
    obtain ⟨q124, h124, hf⟩ := bd_t hf
    refine cl_i (va_runV (As := [.int y0]) (rest := []) S (mX6_fails l D cI cZ A mm y0 H.size q124 h124) (cwV 1 hts gX6_house_X6_fails rfl rfl rfl (by decide +kernel) ⟨Nat.le_of_ble_eq_true rfl, Nat.le_of_ble_eq_true rfl⟩) (mP_V (ci := 6) (Cut.self _ []) hP hD hK hG rfl (gX6_0 _ _ _ _)) rfl rfl hl.1 rfl (lv_room (Nat.le_of_ble_eq_true rfl)) dX6_house_124 ⟨Nat.le_refl _, Nat.le_refl _⟩) (Cut.self _ _) hP hD hS hA (fun H locs hP hD hS => ?_)
    refine lv_if_eq (tgt := 132) hx hb dX6_house_127 (by decide) (fun c127 => ?_) (fun c127 => ?_)
    · have hf := if_t c127 hf
      refine lv_aload_n hx hb dX6_house_132 rfl (lv_at hl 0 rfl) ?_
      refine ld_f S iX6 hK hP 0 5 (.ref (A 4)) (gX6_0 _ _ _ _) rfl (by decide) k23 rfl rfl dX6_house_133 ?_
      refine lv_iload hx hb dX6_house_136 (lv_at hl 2 rfl) ?_
      refine lv_iload_n hx hb dX6_house_138 rfl (lv_at hl 1 rfl) ?_
      obtain ⟨c139, hf⟩ := ck_t hf
      refine st_i hx hb hK hP hD hS 4 0 (sX6_4 _ _ _ _ _ _) (gX6_4 _ _ _ _) rfl c139 dX6_house_139 (fun H locs hP hD hS => ?_)
      refine lv_aload_n hx hb dX6_house_140 rfl (lv_at hl 0 rfl) ?_
      refine lv_iload hx hb dX6_house_141 (lv_at hl 2 rfl) ?_
      obtain ⟨q143, h143, hf⟩ := bd_t hf
      refine cl_v (va_runV (As := [.int x5]) (rest := []) S (mX6_begins l D cI cZ A (aS (q124.2) 5 x5 x3) x5 H.size q143 h143) (cwV 1 hts gX6_house_X6_begins rfl rfl rfl (by decide +kernel) ⟨Nat.le_of_ble_eq_true rfl, Nat.le_of_ble_eq_true rfl⟩) (mP_V (ci := 6) (Cut.self _ []) hP hD hK hG rfl (gX6_0 _ _ _ _)) rfl rfl hl.1 rfl (lv_room (Nat.le_of_ble_eq_true rfl)) dX6_house_143 ⟨Nat.le_refl _, Nat.le_refl _⟩) (Cut.self _ _) hP hD hS hA (fun H locs hP hD hS => ?_)
      refine lv_aload_n hx hb dX6_house_146 rfl (lv_at hl 0 rfl) ?_
      refine ld_f S iX6 hK hP 0 12 (.ref (A 11)) (gX6_0 _ _ _ _) rfl (by decide) k45 rfl rfl dX6_house_147 ?_
      refine lv_iload hx hb dX6_house_150 (lv_at hl 2 rfl) ?_
      refine lv_aload_n hx hb dX6_house_152 rfl (lv_at hl 0 rfl) ?_
      refine ld_f S iX6 hK hP 0 10 (.ref (A 9)) (gX6_0 _ _ _ _) rfl (by decide) k39 rfl rfl dX6_house_153 ?_
      refine lv_iload hx hb dX6_house_156 (lv_at hl 2 rfl) ?_
      obtain ⟨c158, hf⟩ := ck_t hf
      refine va_zald (f := q143 10) hx hb hK hP 9 1 (gX6_9 _ _ _ _) rfl (inb_in c158) dX6_house_158 ?_
      refine lv_if_ne (tgt := 166) hx hb dX6_house_159 (by decide) (fun c159 => ?_) (fun c159 => ?_)
      · have hf := if_f c159 hf
        refine lv_iconst (v := 0) hx hb dX6_house_166 (by decide) ?_
        exact B167 _ _ _ _ hf H locs hP hD hS ls (lv_sub hl [3] rfl)
      · have hf := if_t c159 hf
        refine lv_iconst (v := 1) hx hb dX6_house_162 (by decide) ?_
        refine lv_goto (tgt := 167) hx hb dX6_house_163 (by decide) ?_
        exact B167 _ _ _ _ hf H locs hP hD hS ls (lv_sub hl [3] rfl)
    · have hf := if_f c127 hf
      refine lv_iconst (v := 0) hx hb dX6_house_130 (by decide) ?_
      exact hR _ ls H locs _ _ (congrArg (fun q => q.1) (Option.some.inj hf)) (congrArg (fun q => (wX6 cI cZ A (q.2))) (Option.some.inj hf)) rfl dX6_house_131 hP hD hS
  have B95 : ∀ (mm : St) (x3 : Int32) (x4 : Int32) (x5 : Int32) (x6 : Int32) (x7 : Int32), fX6_house_J95 mm x3 x4 x5 x6 x7 = some res → Bk p l e ({ frames := 3, cells := 0, slots := 0, locals := 63 }) s m args below meth c Q A0 D 9 0 0 (wX6 cI cZ A mm) [(0, .ref (A 0)), (3, .int x3), (4, .int x4), (5, .int x5), (6, .int x6), (7, .int x7)] 95 [] := by
    intro mm x3 x4 x5 x6 x7 hf
    unfold fX6_house_J95 at hf
    intro H locs hP hD hS ls hl
    refine lv_aload_n hx hb dX6_house_95 rfl (lv_at hl 0 rfl) ?_
    refine lv_iload hx hb dX6_house_96 (lv_at hl 2 rfl) ?_
    refine lv_if_ne (tgt := 105) hx hb dX6_house_98 (by decide) (fun c98 => ?_) (fun c98 => ?_)
    · have hf := if_f c98 hf
      refine lv_aload_n hx hb dX6_house_105 rfl (lv_at hl 0 rfl) ?_
      refine lv_iload hx hb dX6_house_106 (lv_at hl 3 rfl) ?_
      obtain ⟨q108, h108, hf⟩ := bd_t hf
      refine cl_i (va_runV (As := [.int x5]) (rest := [.ref (A 0)]) S (mX6_isUsed l D cI cZ A mm x5 H.size q108 h108) (cwV 1 hts gX6_house_X6_isUsed rfl rfl rfl (by decide +kernel) ⟨Nat.le_of_ble_eq_true rfl, Nat.le_of_ble_eq_true rfl⟩) (mP_V (ci := 6) (Cut.self _ []) hP hD hK hG rfl (gX6_0 _ _ _ _)) rfl rfl hl.1 rfl (lv_room (Nat.le_of_ble_eq_true rfl)) dX6_house_108 ⟨Nat.le_refl _, Nat.le_refl _⟩) (Cut.self _ _) hP hD hS hA (fun H locs hP hD hS => ?_)
      refine lv_if_ne (tgt := 119) hx hb dX6_house_111 (by decide) (fun c111 => ?_) (fun c111 => ?_)
      · have hf := if_f c111 hf
        refine lv_iconst (v := 2) hx hb dX6_house_119 (by decide) ?_
        refine lv_goto (tgt := 124) hx hb dX6_house_120 (by decide) ?_
        exact B124 _ _ _ _ _ hf H locs hP hD hS ls (lv_sub hl [0, 1, 3, 5] rfl)
      · have hf := if_t c111 hf
        refine lv_iload hx hb dX6_house_114 (lv_at hl 4 rfl) ?_
        refine lv_if_eq (tgt := 123) hx hb dX6_house_116 (by decide) (fun c116 => ?_) (fun c116 => ?_)
        · have hf := if_t c116 hf
          refine lv_iconst (v := 0) hx hb dX6_house_123 (by decide) ?_
          exact B124 _ _ _ _ _ hf H locs hP hD hS ls (lv_sub hl [0, 1, 3, 5] rfl)
        · have hf := if_f c116 hf
          refine lv_iconst (v := 2) hx hb dX6_house_119 (by decide) ?_
          refine lv_goto (tgt := 124) hx hb dX6_house_120 (by decide) ?_
          exact B124 _ _ _ _ _ hf H locs hP hD hS ls (lv_sub hl [0, 1, 3, 5] rfl)
    · have hf := if_t c98 hf
      refine lv_iconst (v := 1) hx hb dX6_house_101 (by decide) ?_
      refine lv_goto (tgt := 124) hx hb dX6_house_102 (by decide) ?_
      exact B124 _ _ _ _ _ hf H locs hP hD hS ls (lv_sub hl [0, 1, 3, 5] rfl)
  have B66 : ∀ (mm : St) (x3 : Int32) (x4 : Int32) (x5 : Int32) (x7 : Int32) (x8 : Int32) (y0 : Int32) (k38 : (Int32 × Int32 × Int32) → Option (Int32 × St)) (hk38 : ∀ a38, k38 a38 = some res → Bk p l e ({ frames := 3, cells := 0, slots := 0, locals := 63 }) s m args below meth c Q A0 D 9 0 0 (wX6 cI cZ A mm) [(0, .ref (A 0)), (3, .int x3), (4, .int x4), (5, .int x5), (6, .int (a38.1)), (7, .int (a38.2.1)), (8, .int (a38.2.2))] 38 []), fX6_house_J66 k38 mm x3 x4 x5 x7 x8 y0 = some res → Bk p l e ({ frames := 3, cells := 0, slots := 0, locals := 63 }) s m args below meth c Q A0 D 9 0 0 (wX6 cI cZ A mm) [(0, .ref (A 0)), (3, .int x3), (4, .int x4), (5, .int x5), (7, .int x7), (8, .int x8)] 66 [.int y0] := by
    intro mm x3 x4 x5 x7 x8 y0 k38 hk38 hf
    unfold fX6_house_J66 at hf
    intro H locs hP hD hS ls hl
    refine lv_istore (lv' := [(6, .int y0), (0, .ref (A 0)), (3, .int x3), (4, .int x4), (5, .int x5), (7, .int x7), (8, .int x8)]) hx hb dX6_house_66 hl (by decide) rfl (fun ls hl => ?_)
    refine lv_iload hx hb dX6_house_68 (lv_at hl 5 rfl) ?_
    refine lv_aload_n hx hb dX6_house_70 rfl (lv_at hl 1 rfl) ?_
    refine ld_f S iX6 hK hP 0 5 (.ref (A 4)) (gX6_0 _ _ _ _) rfl (by decide) k23 rfl rfl dX6_house_71 ?_
    refine lv_iload hx hb dX6_house_74 (lv_at hl 6 rfl) ?_
    obtain ⟨c76, hf⟩ := ck_t hf
    refine va_iald (f := mm 5) hx hb hK hP 4 0 (gX6_4 _ _ _ _) rfl (inb_in c76) dX6_house_76 ?_
    refine lv_iconst (v := (-1)) hx hb dX6_house_77 (by decide) ?_
    refine lv_icmp_eq (tgt := 85) hx hb dX6_house_78 (by decide) (fun c78 => ?_) (fun c78 => ?_)
    · have hf := if_t c78 hf
      refine lv_iconst (v := 0) hx hb dX6_house_85 (by decide) ?_
      refine lv_iadd hx hb dX6_house_86 ?_
      refine lv_istore (lv' := [(7, .int (x7 + 0)), (6, .int y0), (0, .ref (A 0)), (3, .int x3), (4, .int x4), (5, .int x5), (8, .int x8)]) hx hb dX6_house_87 hl (by decide) rfl (fun ls hl => ?_)
      refine lv_iinc (v := x8 + 1) (lv' := [(8, .int (x8 + 1)), (7, .int (x7 + 0)), (6, .int y0), (0, .ref (A 0)), (3, .int x3), (4, .int x4), (5, .int x5)]) hx hb dX6_house_89 hl (k := 6) rfl rfl (by decide) rfl (fun ls hl => ?_)
      refine lv_goto (tgt := 38) hx hb dX6_house_92 (by decide) ?_
      exact hk38 _ hf H locs hP hD hS ls (lv_sub hl [3, 4, 5, 6, 2, 1, 0] rfl)
    · have hf := if_f c78 hf
      refine lv_iconst (v := 1) hx hb dX6_house_81 (by decide) ?_
      refine lv_goto (tgt := 86) hx hb dX6_house_82 (by decide) ?_
      refine lv_iadd hx hb dX6_house_86 ?_
      refine lv_istore (lv' := [(7, .int (x7 + 1)), (6, .int y0), (0, .ref (A 0)), (3, .int x3), (4, .int x4), (5, .int x5), (8, .int x8)]) hx hb dX6_house_87 hl (by decide) rfl (fun ls hl => ?_)
      refine lv_iinc (v := x8 + 1) (lv' := [(8, .int (x8 + 1)), (7, .int (x7 + 1)), (6, .int y0), (0, .ref (A 0)), (3, .int x3), (4, .int x4), (5, .int x5)]) hx hb dX6_house_89 hl (k := 6) rfl rfl (by decide) rfl (fun ls hl => ?_)
      refine lv_goto (tgt := 38) hx hb dX6_house_92 (by decide) ?_
      exact hk38 _ hf H locs hP hD hS ls (lv_sub hl [3, 4, 5, 6, 2, 1, 0] rfl)
  have B38 : ∀ (mm : St) (x3 : Int32) (x4 : Int32) (x5 : Int32) (x6 : Int32) (x7 : Int32) (x8 : Int32), fX6_house_L38 mm x3 x4 x5 x6 x7 x8 = some res → Bk p l e ({ frames := 3, cells := 0, slots := 0, locals := 63 }) s m args below meth c Q A0 D 9 0 0 (wX6 cI cZ A mm) [(0, .ref (A 0)), (3, .int x3), (4, .int x4), (5, .int x5), (6, .int x6), (7, .int x7), (8, .int x8)] 38 [] := by
    intro mm x3 x4 x5 x6 x7 x8 hf
    refine loop_ind (step := (fun k a => fX6_house_S38 k mm x3 x4 x5 (a.1) (a.2.1) (a.2.2))) (fun a => Bk p l e ({ frames := 3, cells := 0, slots := 0, locals := 63 }) s m args below meth c Q A0 D 9 0 0 (wX6 cI cZ A mm) [(0, .ref (A 0)), (3, .int x3), (4, .int x4), (5, .int x5), (6, .int (a.1)), (7, .int (a.2.1)), (8, .int (a.2.2))] 38 []) ?_ _ _ hf
    clear hf
    intro k38 hk38 a hf
    obtain ⟨x6_, x7_, x8_⟩ := a
    clear x6 x7 x8
    obtain ⟨x6, e_⟩ : ∃ z, z = x6_ := ⟨_, rfl⟩
    subst e_
    obtain ⟨x7, e_⟩ : ∃ z, z = x7_ := ⟨_, rfl⟩
    subst e_
    obtain ⟨x8, e_⟩ : ∃ z, z = x8_ := ⟨_, rfl⟩
    subst e_
    have hf : fX6_house_S38 k38 mm x3 x4 x5 x6 x7 x8 = some res := hf
    show Bk p l e ({ frames := 3, cells := 0, slots := 0, locals := 63 }) s m args below meth c Q A0 D 9 0 0 (wX6 cI cZ A mm) [(0, .ref (A 0)), (3, .int x3), (4, .int x4), (5, .int x5), (6, .int x6), (7, .int x7), (8, .int x8)] 38 []
    unfold fX6_house_S38 at hf
    intro H locs hP hD hS ls hl
    refine lv_iload hx hb dX6_house_38 (lv_at hl 6 rfl) ?_
    refine lv_bipush (v := 30) hx hb dX6_house_40 (by decide) ?_
    refine lv_icmp_ge (tgt := 95) hx hb dX6_house_42 (by decide) (fun c42 => ?_) (fun c42 => ?_)
    · have hf := if_t c42 hf
      exact B95 _ _ _ _ _ _ hf H locs hP hD hS ls (lv_sub hl [0, 1, 2, 3, 4, 5] rfl)
    · have hf := if_f c42 hf
      refine lv_iload hx hb dX6_house_45 (lv_at hl 4 rfl) ?_
      refine lv_if_ne (tgt := 61) hx hb dX6_house_47 (by decide) (fun c47 => ?_) (fun c47 => ?_)
      · have hf := if_f c47 hf
        refine lv_iconst (v := 1) hx hb dX6_house_61 (by decide) ?_
        refine lv_goto (tgt := 66) hx hb dX6_house_62 (by decide) ?_
        exact B66 _ _ _ _ _ _ _ k38 hk38 hf H locs hP hD hS ls (lv_sub hl [0, 1, 2, 3, 5, 6] rfl)
      · have hf := if_t c47 hf
        refine lv_aload_n hx hb dX6_house_50 rfl (lv_at hl 0 rfl) ?_
        refine ld_f S iX6 hK hP 0 5 (.ref (A 4)) (gX6_0 _ _ _ _) rfl (by decide) k23 rfl rfl dX6_house_51 ?_
        refine lv_iload hx hb dX6_house_54 (lv_at hl 6 rfl) ?_
        obtain ⟨c56, hf⟩ := ck_t hf
        refine va_iald (f := mm 5) hx hb hK hP 4 0 (gX6_4 _ _ _ _) rfl (inb_in c56) dX6_house_56 ?_
        refine lv_iload_n hx hb dX6_house_57 rfl (lv_at hl 1 rfl) ?_
        refine lv_icmp_ne (tgt := 65) hx hb dX6_house_58 (by decide) (fun c58 => ?_) (fun c58 => ?_)
        · have hf := if_f c58 hf
          refine lv_iconst (v := 0) hx hb dX6_house_65 (by decide) ?_
          exact B66 _ _ _ _ _ _ _ k38 hk38 hf H locs hP hD hS ls (lv_sub hl [0, 1, 2, 3, 5, 6] rfl)
        · have hf := if_t c58 hf
          refine lv_iconst (v := 1) hx hb dX6_house_61 (by decide) ?_
          refine lv_goto (tgt := 66) hx hb dX6_house_62 (by decide) ?_
          exact B66 _ _ _ _ _ _ _ k38 hk38 hf H locs hP hD hS ls (lv_sub hl [0, 1, 2, 3, 5, 6] rfl)
  have B20 : ∀ (mm : St) (x1 : Int32) (x2 : Int32) (x3 : Int32) (y0 : Int32), fX6_house_J20 mm x1 x2 x3 y0 = some res → Bk p l e ({ frames := 3, cells := 0, slots := 0, locals := 63 }) s m args below meth c Q A0 D 9 0 0 (wX6 cI cZ A mm) [(0, .ref (A 0)), (1, .int x1), (2, .int x2), (3, .int x3)] 20 [.int y0] := by
    intro mm x1 x2 x3 y0 hf
    unfold fX6_house_J20 at hf
    intro H locs hP hD hS ls hl
    refine lv_istore (lv' := [(4, .int y0), (0, .ref (A 0)), (1, .int x1), (2, .int x2), (3, .int x3)]) hx hb dX6_house_20 hl (by decide) rfl (fun ls hl => ?_)
    refine lv_iconst (v := 5) hx hb dX6_house_22 (by decide) ?_
    refine lv_iload_n hx hb dX6_house_23 rfl (lv_at hl 2 rfl) ?_
    refine lv_imul hx hb dX6_house_24 ?_
    refine lv_iload_n hx hb dX6_house_25 rfl (lv_at hl 3 rfl) ?_
    refine lv_iadd hx hb dX6_house_26 ?_
    refine lv_istore (lv' := [(5, .int ((5 * x1) + x2)), (4, .int y0), (0, .ref (A 0)), (1, .int x1), (2, .int x2), (3, .int x3)]) hx hb dX6_house_27 hl (by decide) rfl (fun ls hl => ?_)
    refine lv_iconst (v := 0) hx hb dX6_house_29 (by decide) ?_
    refine lv_istore (lv' := [(6, .int 0), (5, .int ((5 * x1) + x2)), (4, .int y0), (0, .ref (A 0)), (1, .int x1), (2, .int x2), (3, .int x3)]) hx hb dX6_house_30 hl (by decide) rfl (fun ls hl => ?_)
    refine lv_iconst (v := 1) hx hb dX6_house_32 (by decide) ?_
    refine lv_istore (lv' := [(7, .int 1), (6, .int 0), (5, .int ((5 * x1) + x2)), (4, .int y0), (0, .ref (A 0)), (1, .int x1), (2, .int x2), (3, .int x3)]) hx hb dX6_house_33 hl (by decide) rfl (fun ls hl => ?_)
    refine lv_iconst (v := 0) hx hb dX6_house_35 (by decide) ?_
    refine lv_istore (lv' := [(8, .int 0), (7, .int 1), (6, .int 0), (5, .int ((5 * x1) + x2)), (4, .int y0), (0, .ref (A 0)), (1, .int x1), (2, .int x2), (3, .int x3)]) hx hb dX6_house_36 hl (by decide) rfl (fun ls hl => ?_)
    exact B38 _ _ _ _ _ _ _ hf H locs hP hD hS ls (lv_sub hl [5, 8, 4, 3, 2, 1, 0] rfl)
  have B19 : ∀ (mm : St) (x1 : Int32) (x2 : Int32) (x3 : Int32), fX6_house_J19 mm x1 x2 x3 = some res → Bk p l e ({ frames := 3, cells := 0, slots := 0, locals := 63 }) s m args below meth c Q A0 D 9 0 0 (wX6 cI cZ A mm) [(0, .ref (A 0)), (1, .int x1), (2, .int x2), (3, .int x3)] 19 [] := by
    intro mm x1 x2 x3 hf
    unfold fX6_house_J19 at hf
    intro H locs hP hD hS ls hl
    refine lv_iconst (v := 0) hx hb dX6_house_19 (by decide) ?_
    exact B20 _ _ _ _ _ hf H locs hP hD hS ls (lv_sub hl [0, 1, 2, 3] rfl)
  intro H locs hP hD hS ls hl
  have hl : lv_has ls 9 [(0, .ref (A 0)), (1, .int x1), (2, .int x2), (3, .int x3)] := hl
  unfold fX6_house at hf
  refine lv_iload_n hx hb dX6_house_0 rfl (lv_at hl 1 rfl) ?_
  refine lv_iload_n hx hb dX6_house_1 rfl (lv_at hl 2 rfl) ?_
  obtain ⟨q2, h2, hf⟩ := bd_t hf
  refine cl_i (va_runS (As := [.int x1, .int x2]) (rest := []) S (mX6_isPort l D cI cZ x1 x2 H.size q2 h2) (va_cwS 2 hts gX6_house_X6_isPort rfl rfl rfl (by decide +kernel) ⟨Nat.le_of_ble_eq_true rfl, Nat.le_of_ble_eq_true rfl⟩) (mP_S (Cut.nil _) hP hD hK hG) rfl rfl hl.1 rfl (lv_room (Nat.le_of_ble_eq_true rfl)) dX6_house_2 ⟨Nat.le_refl _, Nat.le_refl _⟩) (Cut.nil _) hP hD hS hA (fun H locs hP hD hS => ?_)
  refine lv_if_eq (tgt := 19) hx hb dX6_house_5 (by decide) (fun c5 => ?_) (fun c5 => ?_)
  · have hf := if_t c5 hf
    exact B19 _ _ _ _ hf H locs hP hD hS ls (lv_sub hl [0, 1, 2, 3] rfl)
  · have hf := if_f c5 hf
    refine lv_iload_n hx hb dX6_house_8 rfl (lv_at hl 3 rfl) ?_
    obtain ⟨q9, h9, hf⟩ := bd_t hf
    refine cl_i (va_runS (As := [.int x3]) (rest := []) S (mX6_isHouse l D cI cZ x3 H.size q9 h9) (va_cwS 1 hts gX6_house_X6_isHouse rfl rfl rfl (by decide +kernel) ⟨Nat.le_of_ble_eq_true rfl, Nat.le_of_ble_eq_true rfl⟩) (mP_S (Cut.nil _) hP hD hK hG) rfl rfl hl.1 rfl (lv_room (Nat.le_of_ble_eq_true rfl)) dX6_house_9 ⟨Nat.le_refl _, Nat.le_refl _⟩) (Cut.nil _) hP hD hS hA (fun H locs hP hD hS => ?_)
    refine lv_if_eq (tgt := 19) hx hb dX6_house_12 (by decide) (fun c12 => ?_) (fun c12 => ?_)
    · have hf := if_t c12 hf
      exact B19 _ _ _ _ hf H locs hP hD hS ls (lv_sub hl [0, 1, 2, 3] rfl)
    · have hf := if_f c12 hf
      refine lv_iconst (v := 1) hx hb dX6_house_15 (by decide) ?_
      refine lv_goto (tgt := 20) hx hb dX6_house_16 (by decide) ?_
      exact B20 _ _ _ _ _ hf H locs hP hD hS ls (lv_sub hl [0, 1, 2, 3] rfl)
set_option maxHeartbeats 4000000 in
set_option maxRecDepth 100000 in
theorem mX6_rank (l : Launch) (D : va_G) (cI cZ : ClassId) (A : Nat → Nat)  (mm : St) (x1 : Int32) (x2 : Int32) (sz : Nat) (res : Int32 × St) (hf : fX6_rank mm x1 x2 = some res) : Met l yX6_rank wsX6_rank ({ frames := 2, cells := 0, slots := 0, locals := 42 }) (mP D (tysX cI cZ) [.ref (A 0), .int x1, .int x2] (wX6 cI cZ A mm) sz) (mQi D res.1 (wX6 cI cZ A mm) (wX6 cI cZ A (res.2)) sz) 0 0 (va_A (wX6 cI cZ A mm) sz) := by
  refine mkM_i (cc := cX6_rank) (maxL := 4) (own := RX6) (by decide +kernel) rfl rfl (Nat.le_of_ble_eq_true rfl) ?_
  intro p e s m args below meth c A0 Q S hK hG hA hR
  obtain ⟨hx, hb, hml, hown, hts⟩ := id S
  have k13 := hts (.fieldLink RX6 13 "SwitchFloorModel" "rank" "[I") (by decide +kernel)
  have iX6 : ∀ w ∈ wsX60, w ∈ wsX6_rank := by decide +kernel
  have B27 : ∀ (mm : St) (x1 : Int32) (x2 : Int32) (y0 : Int32), fX6_rank_J27 mm x1 x2 y0 = some res → Bk p l e ({ frames := 2, cells := 0, slots := 0, locals := 42 }) s m args below meth c Q A0 D 4 0 0 (wX6 cI cZ A mm) [(0, .ref (A 0)), (1, .int x1), (2, .int x2)] 27 [.int y0, .ref (A 0)] := by
    intro mm x1 x2 y0 hf
    unfold fX6_rank_J27 at hf
    intro H locs hP hD hS ls hl
    obtain ⟨q27, h27, hf⟩ := bd_t hf
    refine cl_i (va_runV (As := [.int y0]) (rest := []) S (mX6_fails l D cI cZ A mm y0 H.size q27 h27) (cwV 1 hts gX6_rank_X6_fails rfl rfl rfl (by decide +kernel) ⟨Nat.le_of_ble_eq_true rfl, Nat.le_of_ble_eq_true rfl⟩) (mP_V (ci := 6) (Cut.self _ []) hP hD hK hG rfl (gX6_0 _ _ _ _)) rfl rfl hl.1 rfl (lv_room (Nat.le_of_ble_eq_true rfl)) dX6_rank_27 ⟨Nat.le_refl _, Nat.le_refl _⟩) (Cut.self _ _) hP hD hS hA (fun H locs hP hD hS => ?_)
    refine lv_if_eq (tgt := 35) hx hb dX6_rank_30 (by decide) (fun c30 => ?_) (fun c30 => ?_)
    · have hf := if_t c30 hf
      refine lv_aload_n hx hb dX6_rank_35 rfl (lv_at hl 0 rfl) ?_
      refine ld_f S iX6 hK hP 0 2 (.ref (A 1)) (gX6_0 _ _ _ _) rfl (by decide) k13 rfl rfl dX6_rank_36 ?_
      refine lv_iload_n hx hb dX6_rank_39 rfl (lv_at hl 1 rfl) ?_
      obtain ⟨c40, hf⟩ := ck_t hf
      refine va_iald (f := (q27.2) 2) hx hb hK hP 1 0 (gX6_1 _ _ _ _) rfl (inb_in c40) dX6_rank_40 ?_
      refine lv_istore_n (lv' := [(3, .int ((q27.2) 2 x1.toNatClampNeg)), (0, .ref (A 0)), (1, .int x1), (2, .int x2)]) hx hb dX6_rank_41 rfl hl (by decide) rfl (fun ls hl => ?_)
      refine lv_aload_n hx hb dX6_rank_42 rfl (lv_at hl 1 rfl) ?_
      refine ld_f S iX6 hK hP 0 2 (.ref (A 1)) (gX6_0 _ _ _ _) rfl (by decide) k13 rfl rfl dX6_rank_43 ?_
      refine lv_iload_n hx hb dX6_rank_46 rfl (lv_at hl 2 rfl) ?_
      refine lv_iload_n hx hb dX6_rank_47 rfl (lv_at hl 3 rfl) ?_
      obtain ⟨c48, hf⟩ := ck_t hf
      refine st_i hx hb hK hP hD hS 1 0 (sX6_1 _ _ _ _ _ _) (gX6_1 _ _ _ _) rfl c48 dX6_rank_48 (fun H locs hP hD hS => ?_)
      refine lv_iload_n hx hb dX6_rank_49 rfl (lv_at hl 0 rfl) ?_
      exact hR _ ls H locs _ _ (congrArg (fun q => q.1) (Option.some.inj hf)) (congrArg (fun q => (wX6 cI cZ A (q.2))) (Option.some.inj hf)) rfl dX6_rank_50 hP hD hS
    · have hf := if_f c30 hf
      refine lv_iconst (v := 0) hx hb dX6_rank_33 (by decide) ?_
      exact hR _ ls H locs _ _ (congrArg (fun q => q.1) (Option.some.inj hf)) (congrArg (fun q => (wX6 cI cZ A (q.2))) (Option.some.inj hf)) rfl dX6_rank_34 hP hD hS
  intro H locs hP hD hS ls hl
  have hl : lv_has ls 4 [(0, .ref (A 0)), (1, .int x1), (2, .int x2)] := hl
  unfold fX6_rank at hf
  refine lv_aload_n hx hb dX6_rank_0 rfl (lv_at hl 0 rfl) ?_
  refine lv_iload_n hx hb dX6_rank_1 rfl (lv_at hl 1 rfl) ?_
  obtain ⟨q2, h2, hf⟩ := bd_t hf
  refine cl_i (va_runS (As := [.int x1]) (rest := [.ref (A 0)]) S (mX6_isSwitch l D cI cZ x1 H.size q2 h2) (va_cwS 1 hts gX6_rank_X6_isSwitch rfl rfl rfl (by decide +kernel) ⟨Nat.le_of_ble_eq_true rfl, Nat.le_of_ble_eq_true rfl⟩) (mP_S (Cut.nil _) hP hD hK hG) rfl rfl hl.1 rfl (lv_room (Nat.le_of_ble_eq_true rfl)) dX6_rank_2 ⟨Nat.le_refl _, Nat.le_refl _⟩) (Cut.nil _) hP hD hS hA (fun H locs hP hD hS => ?_)
  refine lv_if_ne (tgt := 12) hx hb dX6_rank_5 (by decide) (fun c5 => ?_) (fun c5 => ?_)
  · have hf := if_f c5 hf
    refine lv_iload_n hx hb dX6_rank_12 rfl (lv_at hl 2 rfl) ?_
    refine lv_iconst (v := 0) hx hb dX6_rank_13 (by decide) ?_
    refine lv_bipush (v := 15) hx hb dX6_rank_14 (by decide) ?_
    obtain ⟨q16, h16, hf⟩ := bd_t hf
    refine cl_i (va_runS (As := [.int x2, .int 0, .int 15]) (rest := [.ref (A 0)]) S (mX6_isIn l D cI cZ x2 0 15 H.size q16 h16) (va_cwS 3 hts gX6_rank_X6_isIn rfl rfl rfl (by decide +kernel) ⟨Nat.le_of_ble_eq_true rfl, Nat.le_of_ble_eq_true rfl⟩) (mP_S (Cut.nil _) hP hD hK hG) rfl rfl hl.1 rfl (lv_room (Nat.le_of_ble_eq_true rfl)) dX6_rank_16 ⟨Nat.le_refl _, Nat.le_refl _⟩) (Cut.nil _) hP hD hS hA (fun H locs hP hD hS => ?_)
    refine lv_if_eq (tgt := 26) hx hb dX6_rank_19 (by decide) (fun c19 => ?_) (fun c19 => ?_)
    · have hf := if_t c19 hf
      refine lv_iconst (v := 2) hx hb dX6_rank_26 (by decide) ?_
      exact B27 _ _ _ _ hf H locs hP hD hS ls (lv_sub hl [0, 1, 2] rfl)
    · have hf := if_f c19 hf
      refine lv_iconst (v := 0) hx hb dX6_rank_22 (by decide) ?_
      refine lv_goto (tgt := 27) hx hb dX6_rank_23 (by decide) ?_
      exact B27 _ _ _ _ hf H locs hP hD hS ls (lv_sub hl [0, 1, 2] rfl)
  · have hf := if_t c5 hf
    refine lv_iconst (v := 1) hx hb dX6_rank_8 (by decide) ?_
    refine lv_goto (tgt := 27) hx hb dX6_rank_9 (by decide) ?_
    exact B27 _ _ _ _ hf H locs hP hD hS ls (lv_sub hl [0, 1, 2] rfl)
set_option maxHeartbeats 4000000 in
set_option maxRecDepth 100000 in
theorem mX6_shut (l : Launch) (D : va_G) (cI cZ : ClassId) (A : Nat → Nat)  (mm : St) (x1 : Int32) (x2 : Int32) (sz : Nat) (res : Int32 × St) (hf : fX6_shut mm x1 x2 = some res) : Met l yX6_shut wsX6_shut ({ frames := 3, cells := 0, slots := 0, locals := 67 }) (mP D (tysX cI cZ) [.ref (A 0), .int x1, .int x2] (wX6 cI cZ A mm) sz) (mQi D res.1 (wX6 cI cZ A mm) (wX6 cI cZ A (res.2)) sz) 0 0 (va_A (wX6 cI cZ A mm) sz) := by
  refine mkM_i (cc := cX6_shut) (maxL := 4) (own := RX6) (by decide +kernel) rfl rfl (Nat.le_of_ble_eq_true rfl) ?_
  intro p e s m args below meth c A0 Q S hK hG hA hR
  obtain ⟨hx, hb, hml, hown, hts⟩ := id S
  have k39 := hts (.fieldLink RX6 39 "SwitchFloorModel" "isShut" "[Z") (by decide +kernel)
  have iX6 : ∀ w ∈ wsX60, w ∈ wsX6_shut := by decide +kernel
  have B14 : ∀ (mm : St) (x1 : Int32) (x2 : Int32) (y0 : Int32), fX6_shut_J14 mm x1 x2 y0 = some res → Bk p l e ({ frames := 3, cells := 0, slots := 0, locals := 67 }) s m args below meth c Q A0 D 4 0 0 (wX6 cI cZ A mm) [(0, .ref (A 0)), (1, .int x1), (2, .int x2)] 14 [.int y0, .ref (A 0)] := by
    intro mm x1 x2 y0 hf
    unfold fX6_shut_J14 at hf
    intro H locs hP hD hS ls hl
    obtain ⟨q14, h14, hf⟩ := bd_t hf
    refine cl_i (va_runV (As := [.int y0]) (rest := []) S (mX6_fails l D cI cZ A mm y0 H.size q14 h14) (cwV 1 hts gX6_shut_X6_fails rfl rfl rfl (by decide +kernel) ⟨Nat.le_of_ble_eq_true rfl, Nat.le_of_ble_eq_true rfl⟩) (mP_V (ci := 6) (Cut.self _ []) hP hD hK hG rfl (gX6_0 _ _ _ _)) rfl rfl hl.1 rfl (lv_room (Nat.le_of_ble_eq_true rfl)) dX6_shut_14 ⟨Nat.le_refl _, Nat.le_refl _⟩) (Cut.self _ _) hP hD hS hA (fun H locs hP hD hS => ?_)
    refine lv_if_eq (tgt := 22) hx hb dX6_shut_17 (by decide) (fun c17 => ?_) (fun c17 => ?_)
    · have hf := if_t c17 hf
      refine lv_iconst (v := 5) hx hb dX6_shut_22 (by decide) ?_
      refine lv_iload_n hx hb dX6_shut_23 rfl (lv_at hl 1 rfl) ?_
      refine lv_imul hx hb dX6_shut_24 ?_
      refine lv_iload_n hx hb dX6_shut_25 rfl (lv_at hl 2 rfl) ?_
      refine lv_iadd hx hb dX6_shut_26 ?_
      refine lv_istore_n (lv' := [(3, .int ((5 * x1) + x2)), (0, .ref (A 0)), (1, .int x1), (2, .int x2)]) hx hb dX6_shut_27 rfl hl (by decide) rfl (fun ls hl => ?_)
      refine lv_aload_n hx hb dX6_shut_28 rfl (lv_at hl 1 rfl) ?_
      refine ld_f S iX6 hK hP 0 10 (.ref (A 9)) (gX6_0 _ _ _ _) rfl (by decide) k39 rfl rfl dX6_shut_29 ?_
      refine lv_iload_n hx hb dX6_shut_32 rfl (lv_at hl 0 rfl) ?_
      obtain ⟨c33, hf⟩ := ck_t hf
      refine va_zald (f := (q14.2) 10) hx hb hK hP 9 1 (gX6_9 _ _ _ _) rfl (inb_in c33) dX6_shut_33 ?_
      refine lv_if_eq (tgt := 45) hx hb dX6_shut_34 (by decide) (fun c34 => ?_) (fun c34 => ?_)
      · have hf := if_t c34 hf
        refine lv_aload_n hx hb dX6_shut_45 rfl (lv_at hl 1 rfl) ?_
        refine lv_iload_n hx hb dX6_shut_46 rfl (lv_at hl 0 rfl) ?_
        obtain ⟨q47, h47, hf⟩ := bd_t hf
        refine cl_v (va_runV (As := [.int ((5 * x1) + x2)]) (rest := []) S (mX6_shuts l D cI cZ A (q14.2) ((5 * x1) + x2) H.size q47 h47) (cwV 1 hts gX6_shut_X6_shuts rfl rfl rfl (by decide +kernel) ⟨Nat.le_of_ble_eq_true rfl, Nat.le_of_ble_eq_true rfl⟩) (mP_V (ci := 6) (Cut.self _ []) hP hD hK hG rfl (gX6_0 _ _ _ _)) rfl rfl hl.1 rfl (lv_room (Nat.le_of_ble_eq_true rfl)) dX6_shut_47 ⟨Nat.le_refl _, Nat.le_refl _⟩) (Cut.self _ _) hP hD hS hA (fun H locs hP hD hS => ?_)
        refine lv_aload_n hx hb dX6_shut_50 rfl (lv_at hl 1 rfl) ?_
        refine ld_f S iX6 hK hP 0 10 (.ref (A 9)) (gX6_0 _ _ _ _) rfl (by decide) k39 rfl rfl dX6_shut_51 ?_
        refine lv_iload_n hx hb dX6_shut_54 rfl (lv_at hl 0 rfl) ?_
        obtain ⟨c55, hf⟩ := ck_t hf
        refine va_zald (f := q47 10) hx hb hK hP 9 1 (gX6_9 _ _ _ _) rfl (inb_in c55) dX6_shut_55 ?_
        obtain ⟨c56, hf⟩ := ck_t hf
        exact hR _ ls H locs _ _ (congrArg (fun q => q.1) (Option.some.inj hf)) (congrArg (fun q => (wX6 cI cZ A (q.2))) (Option.some.inj hf)) (isb_n c56) dX6_shut_56 hP hD hS
      · have hf := if_f c34 hf
        refine lv_aload_n hx hb dX6_shut_37 rfl (lv_at hl 1 rfl) ?_
        refine lv_iload_n hx hb dX6_shut_38 rfl (lv_at hl 0 rfl) ?_
        obtain ⟨q39, h39, hf⟩ := bd_t hf
        refine cl_v (va_runV (As := [.int ((5 * x1) + x2)]) (rest := []) S (mX6_frees l D cI cZ A (q14.2) ((5 * x1) + x2) H.size q39 h39) (cwV 1 hts gX6_shut_X6_frees rfl rfl rfl (by decide +kernel) ⟨Nat.le_of_ble_eq_true rfl, Nat.le_of_ble_eq_true rfl⟩) (mP_V (ci := 6) (Cut.self _ []) hP hD hK hG rfl (gX6_0 _ _ _ _)) rfl rfl hl.1 rfl (lv_room (Nat.le_of_ble_eq_true rfl)) dX6_shut_39 ⟨Nat.le_refl _, Nat.le_refl _⟩) (Cut.self _ _) hP hD hS hA (fun H locs hP hD hS => ?_)
        refine lv_goto (tgt := 50) hx hb dX6_shut_42 (by decide) ?_
        refine lv_aload_n hx hb dX6_shut_50 rfl (lv_at hl 1 rfl) ?_
        refine ld_f S iX6 hK hP 0 10 (.ref (A 9)) (gX6_0 _ _ _ _) rfl (by decide) k39 rfl rfl dX6_shut_51 ?_
        refine lv_iload_n hx hb dX6_shut_54 rfl (lv_at hl 0 rfl) ?_
        obtain ⟨c55, hf⟩ := ck_t hf
        refine va_zald (f := q39 10) hx hb hK hP 9 1 (gX6_9 _ _ _ _) rfl (inb_in c55) dX6_shut_55 ?_
        obtain ⟨c56, hf⟩ := ck_t hf
        exact hR _ ls H locs _ _ (congrArg (fun q => q.1) (Option.some.inj hf)) (congrArg (fun q => (wX6 cI cZ A (q.2))) (Option.some.inj hf)) (isb_n c56) dX6_shut_56 hP hD hS
    · have hf := if_f c17 hf
      refine lv_iconst (v := 0) hx hb dX6_shut_20 (by decide) ?_
      exact hR _ ls H locs _ _ (congrArg (fun q => q.1) (Option.some.inj hf)) (congrArg (fun q => (wX6 cI cZ A (q.2))) (Option.some.inj hf)) (by decide) dX6_shut_21 hP hD hS
  intro H locs hP hD hS ls hl
  have hl : lv_has ls 4 [(0, .ref (A 0)), (1, .int x1), (2, .int x2)] := hl
  unfold fX6_shut at hf
  refine lv_aload_n hx hb dX6_shut_0 rfl (lv_at hl 0 rfl) ?_
  refine lv_iload_n hx hb dX6_shut_1 rfl (lv_at hl 1 rfl) ?_
  refine lv_iload_n hx hb dX6_shut_2 rfl (lv_at hl 2 rfl) ?_
  obtain ⟨q3, h3, hf⟩ := bd_t hf
  refine cl_i (va_runS (As := [.int x1, .int x2]) (rest := [.ref (A 0)]) S (mX6_isPort l D cI cZ x1 x2 H.size q3 h3) (va_cwS 2 hts gX6_shut_X6_isPort rfl rfl rfl (by decide +kernel) ⟨Nat.le_of_ble_eq_true rfl, Nat.le_of_ble_eq_true rfl⟩) (mP_S (Cut.nil _) hP hD hK hG) rfl rfl hl.1 rfl (lv_room (Nat.le_of_ble_eq_true rfl)) dX6_shut_3 ⟨Nat.le_refl _, Nat.le_refl _⟩) (Cut.nil _) hP hD hS hA (fun H locs hP hD hS => ?_)
  refine lv_if_eq (tgt := 13) hx hb dX6_shut_6 (by decide) (fun c6 => ?_) (fun c6 => ?_)
  · have hf := if_t c6 hf
    refine lv_iconst (v := 1) hx hb dX6_shut_13 (by decide) ?_
    exact B14 _ _ _ _ hf H locs hP hD hS ls (lv_sub hl [0, 1, 2] rfl)
  · have hf := if_f c6 hf
    refine lv_iconst (v := 0) hx hb dX6_shut_9 (by decide) ?_
    refine lv_goto (tgt := 14) hx hb dX6_shut_10 (by decide) ?_
    exact B14 _ _ _ _ hf H locs hP hD hS ls (lv_sub hl [0, 1, 2] rfl)
set_option maxHeartbeats 4000000 in
set_option maxRecDepth 100000 in
theorem mX6_guard (l : Launch) (D : va_G) (cI cZ : ClassId) (A : Nat → Nat)  (mm : St) (x1 : Int32) (x2 : Int32) (x3 : Int32) (sz : Nat) (res : Int32 × St) (hf : fX6_guard mm x1 x2 x3 = some res) : Met l yX6_guard wsX6_guard ({ frames := 3, cells := 0, slots := 0, locals := 63 }) (mP D (tysX cI cZ) [.ref (A 0), .int x1, .int x2, .int x3] (wX6 cI cZ A mm) sz) (mQi D res.1 (wX6 cI cZ A mm) (wX6 cI cZ A (res.2)) sz) 0 0 (va_A (wX6 cI cZ A mm) sz) := by
  refine mkM_i (cc := cX6_guard) (maxL := 5) (own := RX6) (by decide +kernel) rfl rfl (Nat.le_of_ble_eq_true rfl) ?_
  intro p e s m args below meth c A0 Q S hK hG hA hR
  obtain ⟨hx, hb, hml, hown, hts⟩ := id S
  have k26 := hts (.fieldLink RX6 26 "SwitchFloorModel" "guard" "[I") (by decide +kernel)
  have iX6 : ∀ w ∈ wsX60, w ∈ wsX6_guard := by decide +kernel
  have B27 : ∀ (mm : St) (x1 : Int32) (x2 : Int32) (x3 : Int32) (y0 : Int32), fX6_guard_J27 mm x1 x2 x3 y0 = some res → Bk p l e ({ frames := 3, cells := 0, slots := 0, locals := 63 }) s m args below meth c Q A0 D 5 0 0 (wX6 cI cZ A mm) [(0, .ref (A 0)), (1, .int x1), (2, .int x2), (3, .int x3)] 27 [.int y0, .ref (A 0)] := by
    intro mm x1 x2 x3 y0 hf
    unfold fX6_guard_J27 at hf
    intro H locs hP hD hS ls hl
    obtain ⟨q27, h27, hf⟩ := bd_t hf
    refine cl_i (va_runV (As := [.int y0]) (rest := []) S (mX6_fails l D cI cZ A mm y0 H.size q27 h27) (cwV 1 hts gX6_guard_X6_fails rfl rfl rfl (by decide +kernel) ⟨Nat.le_of_ble_eq_true rfl, Nat.le_of_ble_eq_true rfl⟩) (mP_V (ci := 6) (Cut.self _ []) hP hD hK hG rfl (gX6_0 _ _ _ _)) rfl rfl hl.1 rfl (lv_room (Nat.le_of_ble_eq_true rfl)) dX6_guard_27 ⟨Nat.le_refl _, Nat.le_refl _⟩) (Cut.self _ _) hP hD hS hA (fun H locs hP hD hS => ?_)
    refine lv_if_eq (tgt := 35) hx hb dX6_guard_30 (by decide) (fun c30 => ?_) (fun c30 => ?_)
    · have hf := if_t c30 hf
      refine lv_aload_n hx hb dX6_guard_35 rfl (lv_at hl 0 rfl) ?_
      refine ld_f S iX6 hK hP 0 6 (.ref (A 5)) (gX6_0 _ _ _ _) rfl (by decide) k26 rfl rfl dX6_guard_36 ?_
      refine lv_iconst (v := 5) hx hb dX6_guard_39 (by decide) ?_
      refine lv_iload_n hx hb dX6_guard_40 rfl (lv_at hl 1 rfl) ?_
      refine lv_imul hx hb dX6_guard_41 ?_
      refine lv_iload_n hx hb dX6_guard_42 rfl (lv_at hl 2 rfl) ?_
      refine lv_iadd hx hb dX6_guard_43 ?_
      obtain ⟨c44, hf⟩ := ck_t hf
      refine va_iald (f := (q27.2) 6) hx hb hK hP 5 0 (gX6_5 _ _ _ _) rfl (inb_in c44) dX6_guard_44 ?_
      refine lv_istore (lv' := [(4, .int ((q27.2) 6 ((5 * x1) + x2).toNatClampNeg)), (0, .ref (A 0)), (1, .int x1), (2, .int x2), (3, .int x3)]) hx hb dX6_guard_45 hl (by decide) rfl (fun ls hl => ?_)
      refine lv_aload_n hx hb dX6_guard_47 rfl (lv_at hl 1 rfl) ?_
      refine ld_f S iX6 hK hP 0 6 (.ref (A 5)) (gX6_0 _ _ _ _) rfl (by decide) k26 rfl rfl dX6_guard_48 ?_
      refine lv_iconst (v := 5) hx hb dX6_guard_51 (by decide) ?_
      refine lv_iload_n hx hb dX6_guard_52 rfl (lv_at hl 2 rfl) ?_
      refine lv_imul hx hb dX6_guard_53 ?_
      refine lv_iload_n hx hb dX6_guard_54 rfl (lv_at hl 3 rfl) ?_
      refine lv_iadd hx hb dX6_guard_55 ?_
      refine lv_iload_n hx hb dX6_guard_56 rfl (lv_at hl 4 rfl) ?_
      obtain ⟨c57, hf⟩ := ck_t hf
      refine st_i hx hb hK hP hD hS 5 0 (sX6_5 _ _ _ _ _ _) (gX6_5 _ _ _ _) rfl c57 dX6_guard_57 (fun H locs hP hD hS => ?_)
      refine lv_iload hx hb dX6_guard_58 (lv_at hl 0 rfl) ?_
      exact hR _ ls H locs _ _ (congrArg (fun q => q.1) (Option.some.inj hf)) (congrArg (fun q => (wX6 cI cZ A (q.2))) (Option.some.inj hf)) rfl dX6_guard_60 hP hD hS
    · have hf := if_f c30 hf
      refine lv_iconst (v := 0) hx hb dX6_guard_33 (by decide) ?_
      exact hR _ ls H locs _ _ (congrArg (fun q => q.1) (Option.some.inj hf)) (congrArg (fun q => (wX6 cI cZ A (q.2))) (Option.some.inj hf)) rfl dX6_guard_34 hP hD hS
  intro H locs hP hD hS ls hl
  have hl : lv_has ls 5 [(0, .ref (A 0)), (1, .int x1), (2, .int x2), (3, .int x3)] := hl
  unfold fX6_guard at hf
  refine lv_aload_n hx hb dX6_guard_0 rfl (lv_at hl 0 rfl) ?_
  refine lv_iload_n hx hb dX6_guard_1 rfl (lv_at hl 1 rfl) ?_
  refine lv_iload_n hx hb dX6_guard_2 rfl (lv_at hl 2 rfl) ?_
  obtain ⟨q3, h3, hf⟩ := bd_t hf
  refine cl_i (va_runS (As := [.int x1, .int x2]) (rest := [.ref (A 0)]) S (mX6_isPort l D cI cZ x1 x2 H.size q3 h3) (va_cwS 2 hts gX6_guard_X6_isPort rfl rfl rfl (by decide +kernel) ⟨Nat.le_of_ble_eq_true rfl, Nat.le_of_ble_eq_true rfl⟩) (mP_S (Cut.nil _) hP hD hK hG) rfl rfl hl.1 rfl (lv_room (Nat.le_of_ble_eq_true rfl)) dX6_guard_3 ⟨Nat.le_refl _, Nat.le_refl _⟩) (Cut.nil _) hP hD hS hA (fun H locs hP hD hS => ?_)
  refine lv_if_ne (tgt := 13) hx hb dX6_guard_6 (by decide) (fun c6 => ?_) (fun c6 => ?_)
  · have hf := if_f c6 hf
    refine lv_iload_n hx hb dX6_guard_13 rfl (lv_at hl 3 rfl) ?_
    refine lv_iconst (v := 0) hx hb dX6_guard_14 (by decide) ?_
    refine lv_iconst (v := 2) hx hb dX6_guard_15 (by decide) ?_
    obtain ⟨q16, h16, hf⟩ := bd_t hf
    refine cl_i (va_runS (As := [.int x3, .int 0, .int 2]) (rest := [.ref (A 0)]) S (mX6_isIn l D cI cZ x3 0 2 H.size q16 h16) (va_cwS 3 hts gX6_guard_X6_isIn rfl rfl rfl (by decide +kernel) ⟨Nat.le_of_ble_eq_true rfl, Nat.le_of_ble_eq_true rfl⟩) (mP_S (Cut.nil _) hP hD hK hG) rfl rfl hl.1 rfl (lv_room (Nat.le_of_ble_eq_true rfl)) dX6_guard_16 ⟨Nat.le_refl _, Nat.le_refl _⟩) (Cut.nil _) hP hD hS hA (fun H locs hP hD hS => ?_)
    refine lv_if_eq (tgt := 26) hx hb dX6_guard_19 (by decide) (fun c19 => ?_) (fun c19 => ?_)
    · have hf := if_t c19 hf
      refine lv_iconst (v := 2) hx hb dX6_guard_26 (by decide) ?_
      exact B27 _ _ _ _ _ hf H locs hP hD hS ls (lv_sub hl [0, 1, 2, 3] rfl)
    · have hf := if_f c19 hf
      refine lv_iconst (v := 0) hx hb dX6_guard_22 (by decide) ?_
      refine lv_goto (tgt := 27) hx hb dX6_guard_23 (by decide) ?_
      exact B27 _ _ _ _ _ hf H locs hP hD hS ls (lv_sub hl [0, 1, 2, 3] rfl)
  · have hf := if_t c6 hf
    refine lv_iconst (v := 1) hx hb dX6_guard_9 (by decide) ?_
    refine lv_goto (tgt := 27) hx hb dX6_guard_10 (by decide) ?_
    exact B27 _ _ _ _ _ hf H locs hP hD hS ls (lv_sub hl [0, 1, 2, 3] rfl)
set_option maxHeartbeats 4000000 in
set_option maxRecDepth 100000 in
theorem mX6_plain (l : Launch) (D : va_G) (cI cZ : ClassId) (A : Nat → Nat)  (mm : St) (x1 : Int32) (x2 : Int32) (x3 : Int32) (sz : Nat) (res : St) (hf : fX6_plain mm x1 x2 x3 = some res) : Met l yX6_plain wsX6_plain ({ frames := 3, cells := 0, slots := 0, locals := 63 }) (mP D (tysX cI cZ) [.ref (A 0), .int x1, .int x2, .int x3] (wX6 cI cZ A mm) sz) (mQv D (wX6 cI cZ A mm) (wX6 cI cZ A res) sz) 0 0 (va_A (wX6 cI cZ A mm) sz) := by
  refine mkM_v (cc := cX6_plain) (maxL := 4) (own := RX6) (by decide +kernel) rfl rfl (Nat.le_of_ble_eq_true rfl) ?_
  intro p e s m args below meth c A0 Q S hK hG hA hR
  obtain ⟨hx, hb, hml, hown, hts⟩ := id S
  have k29 := hts (.fieldLink RX6 29 "SwitchFloorModel" "isTrunk" "[Z") (by decide +kernel)
  have iX6 : ∀ w ∈ wsX60, w ∈ wsX6_plain := by decide +kernel
  have k36 := hts (.fieldLink RX6 36 "SwitchFloorModel" "lane" "[I") (by decide +kernel)
  have B21 : ∀ (mm : St) (x1 : Int32) (x2 : Int32) (x3 : Int32) (y0 : Int32), fX6_plain_J21 mm x1 x2 x3 y0 = some res → Bk p l e ({ frames := 3, cells := 0, slots := 0, locals := 63 }) s m args below meth c Q A0 D 4 0 0 (wX6 cI cZ A mm) [(0, .ref (A 0)), (1, .int x1), (2, .int x2), (3, .int x3)] 21 [.int y0, .ref (A 0)] := by
    intro mm x1 x2 x3 y0 hf
    unfold fX6_plain_J21 at hf
    intro H locs hP hD hS ls hl
    obtain ⟨q21, h21, hf⟩ := bd_t hf
    refine cl_i (va_runV (As := [.int y0]) (rest := []) S (mX6_fails l D cI cZ A mm y0 H.size q21 h21) (cwV 1 hts gX6_plain_X6_fails rfl rfl rfl (by decide +kernel) ⟨Nat.le_of_ble_eq_true rfl, Nat.le_of_ble_eq_true rfl⟩) (mP_V (ci := 6) (Cut.self _ []) hP hD hK hG rfl (gX6_0 _ _ _ _)) rfl rfl hl.1 rfl (lv_room (Nat.le_of_ble_eq_true rfl)) dX6_plain_21 ⟨Nat.le_refl _, Nat.le_refl _⟩) (Cut.self _ _) hP hD hS hA (fun H locs hP hD hS => ?_)
    refine lv_if_ne (tgt := 49) hx hb dX6_plain_24 (by decide) (fun c24 => ?_) (fun c24 => ?_)
    · have hf := if_f c24 hf
      exact hR _ ls H locs _ (congrArg (fun q => (wX6 cI cZ A q)) (Option.some.inj hf)) dX6_plain_49 hP hD hS
    · have hf := if_t c24 hf
      refine lv_aload_n hx hb dX6_plain_27 rfl (lv_at hl 0 rfl) ?_
      refine ld_f S iX6 hK hP 0 7 (.ref (A 6)) (gX6_0 _ _ _ _) rfl (by decide) k29 rfl rfl dX6_plain_28 ?_
      refine lv_iconst (v := 5) hx hb dX6_plain_31 (by decide) ?_
      refine lv_iload_n hx hb dX6_plain_32 rfl (lv_at hl 1 rfl) ?_
      refine lv_imul hx hb dX6_plain_33 ?_
      refine lv_iload_n hx hb dX6_plain_34 rfl (lv_at hl 2 rfl) ?_
      refine lv_iadd hx hb dX6_plain_35 ?_
      refine lv_iconst (v := 0) hx hb dX6_plain_36 (by decide) ?_
      obtain ⟨c37, hf⟩ := ck_t hf
      refine st_z hx hb hK hP hD hS 6 1 (sX6_6 _ _ _ _ _ _) (gX6_6 _ _ _ _) rfl c37 dX6_plain_37 (fun H locs hP hD hS => ?_)
      refine lv_aload_n hx hb dX6_plain_38 rfl (lv_at hl 0 rfl) ?_
      refine ld_f S iX6 hK hP 0 9 (.ref (A 8)) (gX6_0 _ _ _ _) rfl (by decide) k36 rfl rfl dX6_plain_39 ?_
      refine lv_iconst (v := 5) hx hb dX6_plain_42 (by decide) ?_
      refine lv_iload_n hx hb dX6_plain_43 rfl (lv_at hl 1 rfl) ?_
      refine lv_imul hx hb dX6_plain_44 ?_
      refine lv_iload_n hx hb dX6_plain_45 rfl (lv_at hl 2 rfl) ?_
      refine lv_iadd hx hb dX6_plain_46 ?_
      refine lv_iload_n hx hb dX6_plain_47 rfl (lv_at hl 3 rfl) ?_
      obtain ⟨c48, hf⟩ := ck_t hf
      refine st_i hx hb hK hP hD hS 8 0 (sX6_8 _ _ _ _ _ _) (gX6_8 _ _ _ _) rfl c48 dX6_plain_48 (fun H locs hP hD hS => ?_)
      exact hR _ ls H locs _ (congrArg (fun q => (wX6 cI cZ A q)) (Option.some.inj hf)) dX6_plain_49 hP hD hS
  have B20 : ∀ (mm : St) (x1 : Int32) (x2 : Int32) (x3 : Int32), fX6_plain_J20 mm x1 x2 x3 = some res → Bk p l e ({ frames := 3, cells := 0, slots := 0, locals := 63 }) s m args below meth c Q A0 D 4 0 0 (wX6 cI cZ A mm) [(0, .ref (A 0)), (1, .int x1), (2, .int x2), (3, .int x3)] 20 [.ref (A 0)] := by
    intro mm x1 x2 x3 hf
    unfold fX6_plain_J20 at hf
    intro H locs hP hD hS ls hl
    refine lv_iconst (v := 1) hx hb dX6_plain_20 (by decide) ?_
    exact B21 _ _ _ _ _ hf H locs hP hD hS ls (lv_sub hl [0, 1, 2, 3] rfl)
  intro H locs hP hD hS ls hl
  have hl : lv_has ls 4 [(0, .ref (A 0)), (1, .int x1), (2, .int x2), (3, .int x3)] := hl
  unfold fX6_plain at hf
  refine lv_aload_n hx hb dX6_plain_0 rfl (lv_at hl 0 rfl) ?_
  refine lv_iload_n hx hb dX6_plain_1 rfl (lv_at hl 1 rfl) ?_
  refine lv_iload_n hx hb dX6_plain_2 rfl (lv_at hl 2 rfl) ?_
  obtain ⟨q3, h3, hf⟩ := bd_t hf
  refine cl_i (va_runS (As := [.int x1, .int x2]) (rest := [.ref (A 0)]) S (mX6_isPort l D cI cZ x1 x2 H.size q3 h3) (va_cwS 2 hts gX6_plain_X6_isPort rfl rfl rfl (by decide +kernel) ⟨Nat.le_of_ble_eq_true rfl, Nat.le_of_ble_eq_true rfl⟩) (mP_S (Cut.nil _) hP hD hK hG) rfl rfl hl.1 rfl (lv_room (Nat.le_of_ble_eq_true rfl)) dX6_plain_3 ⟨Nat.le_refl _, Nat.le_refl _⟩) (Cut.nil _) hP hD hS hA (fun H locs hP hD hS => ?_)
  refine lv_if_eq (tgt := 20) hx hb dX6_plain_6 (by decide) (fun c6 => ?_) (fun c6 => ?_)
  · have hf := if_t c6 hf
    exact B20 _ _ _ _ hf H locs hP hD hS ls (lv_sub hl [0, 1, 2, 3] rfl)
  · have hf := if_f c6 hf
    refine lv_iload_n hx hb dX6_plain_9 rfl (lv_at hl 3 rfl) ?_
    obtain ⟨q10, h10, hf⟩ := bd_t hf
    refine cl_i (va_runS (As := [.int x3]) (rest := [.ref (A 0)]) S (mX6_isLane l D cI cZ x3 H.size q10 h10) (va_cwS 1 hts gX6_plain_X6_isLane rfl rfl rfl (by decide +kernel) ⟨Nat.le_of_ble_eq_true rfl, Nat.le_of_ble_eq_true rfl⟩) (mP_S (Cut.nil _) hP hD hK hG) rfl rfl hl.1 rfl (lv_room (Nat.le_of_ble_eq_true rfl)) dX6_plain_10 ⟨Nat.le_refl _, Nat.le_refl _⟩) (Cut.nil _) hP hD hS hA (fun H locs hP hD hS => ?_)
    refine lv_if_eq (tgt := 20) hx hb dX6_plain_13 (by decide) (fun c13 => ?_) (fun c13 => ?_)
    · have hf := if_t c13 hf
      exact B20 _ _ _ _ hf H locs hP hD hS ls (lv_sub hl [0, 1, 2, 3] rfl)
    · have hf := if_f c13 hf
      refine lv_iconst (v := 0) hx hb dX6_plain_16 (by decide) ?_
      refine lv_goto (tgt := 21) hx hb dX6_plain_17 (by decide) ?_
      exact B21 _ _ _ _ _ hf H locs hP hD hS ls (lv_sub hl [0, 1, 2, 3] rfl)
set_option maxHeartbeats 4000000 in
set_option maxRecDepth 100000 in
theorem mX6_trunk (l : Launch) (D : va_G) (cI cZ : ClassId) (A : Nat → Nat)  (mm : St) (x1 : Int32) (x2 : Int32) (x3 : Int32) (x4 : Int32) (sz : Nat) (res : St) (hf : fX6_trunk mm x1 x2 x3 x4 = some res) : Met l yX6_trunk wsX6_trunk ({ frames := 3, cells := 0, slots := 0, locals := 63 }) (mP D (tysX cI cZ) [.ref (A 0), .int x1, .int x2, .int x3, .int x4] (wX6 cI cZ A mm) sz) (mQv D (wX6 cI cZ A mm) (wX6 cI cZ A res) sz) 0 0 (va_A (wX6 cI cZ A mm) sz) := by
  refine mkM_v (cc := cX6_trunk) (maxL := 5) (own := RX6) (by decide +kernel) rfl rfl (Nat.le_of_ble_eq_true rfl) ?_
  intro p e s m args below meth c A0 Q S hK hG hA hR
  obtain ⟨hx, hb, hml, hown, hts⟩ := id S
  have k29 := hts (.fieldLink RX6 29 "SwitchFloorModel" "isTrunk" "[Z") (by decide +kernel)
  have iX6 : ∀ w ∈ wsX60, w ∈ wsX6_trunk := by decide +kernel
  have k33 := hts (.fieldLink RX6 33 "SwitchFloorModel" "lanes" "[I") (by decide +kernel)
  have k36 := hts (.fieldLink RX6 36 "SwitchFloorModel" "lane" "[I") (by decide +kernel)
  have B36 : ∀ (mm : St) (x1 : Int32) (x2 : Int32) (x3 : Int32) (x4 : Int32) (y0 : Int32), fX6_trunk_J36 mm x1 x2 x3 x4 y0 = some res → Bk p l e ({ frames := 3, cells := 0, slots := 0, locals := 63 }) s m args below meth c Q A0 D 5 0 0 (wX6 cI cZ A mm) [(0, .ref (A 0)), (1, .int x1), (2, .int x2), (3, .int x3), (4, .int x4)] 36 [.int y0, .ref (A 0)] := by
    intro mm x1 x2 x3 x4 y0 hf
    unfold fX6_trunk_J36 at hf
    intro H locs hP hD hS ls hl
    obtain ⟨q36, h36, hf⟩ := bd_t hf
    refine cl_i (va_runV (As := [.int y0]) (rest := []) S (mX6_fails l D cI cZ A mm y0 H.size q36 h36) (cwV 1 hts gX6_trunk_X6_fails rfl rfl rfl (by decide +kernel) ⟨Nat.le_of_ble_eq_true rfl, Nat.le_of_ble_eq_true rfl⟩) (mP_V (ci := 6) (Cut.self _ []) hP hD hK hG rfl (gX6_0 _ _ _ _)) rfl rfl hl.1 rfl (lv_room (Nat.le_of_ble_eq_true rfl)) dX6_trunk_36 ⟨Nat.le_refl _, Nat.le_refl _⟩) (Cut.self _ _) hP hD hS hA (fun H locs hP hD hS => ?_)
    refine lv_if_ne (tgt := 76) hx hb dX6_trunk_39 (by decide) (fun c39 => ?_) (fun c39 => ?_)
    · have hf := if_f c39 hf
      exact hR _ ls H locs _ (congrArg (fun q => (wX6 cI cZ A q)) (Option.some.inj hf)) dX6_trunk_76 hP hD hS
    · have hf := if_t c39 hf
      refine lv_aload_n hx hb dX6_trunk_42 rfl (lv_at hl 0 rfl) ?_
      refine ld_f S iX6 hK hP 0 7 (.ref (A 6)) (gX6_0 _ _ _ _) rfl (by decide) k29 rfl rfl dX6_trunk_43 ?_
      refine lv_iconst (v := 5) hx hb dX6_trunk_46 (by decide) ?_
      refine lv_iload_n hx hb dX6_trunk_47 rfl (lv_at hl 1 rfl) ?_
      refine lv_imul hx hb dX6_trunk_48 ?_
      refine lv_iload_n hx hb dX6_trunk_49 rfl (lv_at hl 2 rfl) ?_
      refine lv_iadd hx hb dX6_trunk_50 ?_
      refine lv_iconst (v := 1) hx hb dX6_trunk_51 (by decide) ?_
      obtain ⟨c52, hf⟩ := ck_t hf
      refine st_z hx hb hK hP hD hS 6 1 (sX6_6 _ _ _ _ _ _) (gX6_6 _ _ _ _) rfl c52 dX6_trunk_52 (fun H locs hP hD hS => ?_)
      refine lv_aload_n hx hb dX6_trunk_53 rfl (lv_at hl 0 rfl) ?_
      refine ld_f S iX6 hK hP 0 8 (.ref (A 7)) (gX6_0 _ _ _ _) rfl (by decide) k33 rfl rfl dX6_trunk_54 ?_
      refine lv_iconst (v := 5) hx hb dX6_trunk_57 (by decide) ?_
      refine lv_iload_n hx hb dX6_trunk_58 rfl (lv_at hl 1 rfl) ?_
      refine lv_imul hx hb dX6_trunk_59 ?_
      refine lv_iload_n hx hb dX6_trunk_60 rfl (lv_at hl 2 rfl) ?_
      refine lv_iadd hx hb dX6_trunk_61 ?_
      refine lv_iload_n hx hb dX6_trunk_62 rfl (lv_at hl 3 rfl) ?_
      obtain ⟨c63, hf⟩ := ck_t hf
      refine st_i hx hb hK hP hD hS 7 0 (sX6_7 _ _ _ _ _ _) (gX6_7 _ _ _ _) rfl c63 dX6_trunk_63 (fun H locs hP hD hS => ?_)
      refine lv_aload_n hx hb dX6_trunk_64 rfl (lv_at hl 0 rfl) ?_
      refine ld_f S iX6 hK hP 0 9 (.ref (A 8)) (gX6_0 _ _ _ _) rfl (by decide) k36 rfl rfl dX6_trunk_65 ?_
      refine lv_iconst (v := 5) hx hb dX6_trunk_68 (by decide) ?_
      refine lv_iload_n hx hb dX6_trunk_69 rfl (lv_at hl 1 rfl) ?_
      refine lv_imul hx hb dX6_trunk_70 ?_
      refine lv_iload_n hx hb dX6_trunk_71 rfl (lv_at hl 2 rfl) ?_
      refine lv_iadd hx hb dX6_trunk_72 ?_
      refine lv_iload hx hb dX6_trunk_73 (lv_at hl 4 rfl) ?_
      obtain ⟨c75, hf⟩ := ck_t hf
      refine st_i hx hb hK hP hD hS 8 0 (sX6_8 _ _ _ _ _ _) (gX6_8 _ _ _ _) rfl c75 dX6_trunk_75 (fun H locs hP hD hS => ?_)
      exact hR _ ls H locs _ (congrArg (fun q => (wX6 cI cZ A q)) (Option.some.inj hf)) dX6_trunk_76 hP hD hS
  intro H locs hP hD hS ls hl
  have hl : lv_has ls 5 [(0, .ref (A 0)), (1, .int x1), (2, .int x2), (3, .int x3), (4, .int x4)] := hl
  unfold fX6_trunk at hf
  refine lv_aload_n hx hb dX6_trunk_0 rfl (lv_at hl 0 rfl) ?_
  refine lv_iload_n hx hb dX6_trunk_1 rfl (lv_at hl 1 rfl) ?_
  refine lv_iload_n hx hb dX6_trunk_2 rfl (lv_at hl 2 rfl) ?_
  obtain ⟨q3, h3, hf⟩ := bd_t hf
  refine cl_i (va_runS (As := [.int x1, .int x2]) (rest := [.ref (A 0)]) S (mX6_isPort l D cI cZ x1 x2 H.size q3 h3) (va_cwS 2 hts gX6_trunk_X6_isPort rfl rfl rfl (by decide +kernel) ⟨Nat.le_of_ble_eq_true rfl, Nat.le_of_ble_eq_true rfl⟩) (mP_S (Cut.nil _) hP hD hK hG) rfl rfl hl.1 rfl (lv_room (Nat.le_of_ble_eq_true rfl)) dX6_trunk_3 ⟨Nat.le_refl _, Nat.le_refl _⟩) (Cut.nil _) hP hD hS hA (fun H locs hP hD hS => ?_)
  refine lv_if_eq (tgt := 17) hx hb dX6_trunk_6 (by decide) (fun c6 => ?_) (fun c6 => ?_)
  · have hf := if_t c6 hf
    refine lv_iconst (v := 1) hx hb dX6_trunk_17 (by decide) ?_
    refine lv_goto (tgt := 36) hx hb dX6_trunk_18 (by decide) ?_
    exact B36 _ _ _ _ _ _ hf H locs hP hD hS ls (lv_sub hl [0, 1, 2, 3, 4] rfl)
  · have hf := if_f c6 hf
    refine lv_iload hx hb dX6_trunk_9 (lv_at hl 4 rfl) ?_
    obtain ⟨q11, h11, hf⟩ := bd_t hf
    refine cl_i (va_runS (As := [.int x4]) (rest := [.ref (A 0)]) S (mX6_isLane l D cI cZ x4 H.size q11 h11) (va_cwS 1 hts gX6_trunk_X6_isLane rfl rfl rfl (by decide +kernel) ⟨Nat.le_of_ble_eq_true rfl, Nat.le_of_ble_eq_true rfl⟩) (mP_S (Cut.nil _) hP hD hK hG) rfl rfl hl.1 rfl (lv_room (Nat.le_of_ble_eq_true rfl)) dX6_trunk_11 ⟨Nat.le_refl _, Nat.le_refl _⟩) (Cut.nil _) hP hD hS hA (fun H locs hP hD hS => ?_)
    refine lv_if_ne (tgt := 21) hx hb dX6_trunk_14 (by decide) (fun c14 => ?_) (fun c14 => ?_)
    · have hf := if_f c14 hf
      refine lv_iload_n hx hb dX6_trunk_21 rfl (lv_at hl 3 rfl) ?_
      refine lv_iconst (v := 1) hx hb dX6_trunk_22 (by decide) ?_
      refine lv_bipush (v := 7) hx hb dX6_trunk_23 (by decide) ?_
      obtain ⟨q25, h25, hf⟩ := bd_t hf
      refine cl_i (va_runS (As := [.int x3, .int 1, .int 7]) (rest := [.ref (A 0)]) S (mX6_isIn l D cI cZ x3 1 7 H.size q25 h25) (va_cwS 3 hts gX6_trunk_X6_isIn rfl rfl rfl (by decide +kernel) ⟨Nat.le_of_ble_eq_true rfl, Nat.le_of_ble_eq_true rfl⟩) (mP_S (Cut.nil _) hP hD hK hG) rfl rfl hl.1 rfl (lv_room (Nat.le_of_ble_eq_true rfl)) dX6_trunk_25 ⟨Nat.le_refl _, Nat.le_refl _⟩) (Cut.nil _) hP hD hS hA (fun H locs hP hD hS => ?_)
      refine lv_if_eq (tgt := 35) hx hb dX6_trunk_28 (by decide) (fun c28 => ?_) (fun c28 => ?_)
      · have hf := if_t c28 hf
        refine lv_iconst (v := 2) hx hb dX6_trunk_35 (by decide) ?_
        exact B36 _ _ _ _ _ _ hf H locs hP hD hS ls (lv_sub hl [0, 1, 2, 3, 4] rfl)
      · have hf := if_f c28 hf
        refine lv_iconst (v := 0) hx hb dX6_trunk_31 (by decide) ?_
        refine lv_goto (tgt := 36) hx hb dX6_trunk_32 (by decide) ?_
        exact B36 _ _ _ _ _ _ hf H locs hP hD hS ls (lv_sub hl [0, 1, 2, 3, 4] rfl)
    · have hf := if_t c14 hf
      refine lv_iconst (v := 1) hx hb dX6_trunk_17 (by decide) ?_
      refine lv_goto (tgt := 36) hx hb dX6_trunk_18 (by decide) ?_
      exact B36 _ _ _ _ _ _ hf H locs hP hD hS ls (lv_sub hl [0, 1, 2, 3, 4] rfl)
set_option maxHeartbeats 4000000 in
set_option maxRecDepth 100000 in
theorem mX6_limit (l : Launch) (D : va_G) (cI cZ : ClassId) (A : Nat → Nat)  (mm : St) (x1 : Int32) (sz : Nat) (res : Int32 × St) (hf : fX6_limit mm x1 = some res) : Met l yX6_limit wsX6_limit ({ frames := 1, cells := 0, slots := 0, locals := 22 }) (mP D (tysX cI cZ) [.ref (A 0), .int x1] (wX6 cI cZ A mm) sz) (mQi D res.1 (wX6 cI cZ A mm) (wX6 cI cZ A (res.2)) sz) 0 0 (va_A (wX6 cI cZ A mm) sz) := by
  refine mkM_i (cc := cX6_limit) (maxL := 3) (own := RX6) (by decide +kernel) rfl rfl (Nat.le_of_ble_eq_true rfl) ?_
  intro p e s m args below meth c A0 Q S hK hG hA hR
  obtain ⟨hx, hb, hml, hown, hts⟩ := id S
  have k7 := hts (.fieldLink RX6 7 "SwitchFloorModel" "limit" "I") (by decide +kernel)
  have iX6 : ∀ w ∈ wsX60, w ∈ wsX6_limit := by decide +kernel
  have B16 : ∀ (mm : St) (x1 : Int32) (y0 : Int32), fX6_limit_J16 mm x1 y0 = some res → Bk p l e ({ frames := 1, cells := 0, slots := 0, locals := 22 }) s m args below meth c Q A0 D 3 0 0 (wX6 cI cZ A mm) [(0, .ref (A 0)), (1, .int x1)] 16 [.int y0, .ref (A 0)] := by
    intro mm x1 y0 hf
    unfold fX6_limit_J16 at hf
    intro H locs hP hD hS ls hl
    obtain ⟨q16, h16, hf⟩ := bd_t hf
    refine cl_i (va_runV (As := [.int y0]) (rest := []) S (mX6_fails l D cI cZ A mm y0 H.size q16 h16) (cwV 1 hts gX6_limit_X6_fails rfl rfl rfl (by decide +kernel) ⟨Nat.le_of_ble_eq_true rfl, Nat.le_of_ble_eq_true rfl⟩) (mP_V (ci := 6) (Cut.self _ []) hP hD hK hG rfl (gX6_0 _ _ _ _)) rfl rfl hl.1 rfl (lv_room (Nat.le_of_ble_eq_true rfl)) dX6_limit_16 ⟨Nat.le_refl _, Nat.le_refl _⟩) (Cut.self _ _) hP hD hS hA (fun H locs hP hD hS => ?_)
    refine lv_if_eq (tgt := 24) hx hb dX6_limit_19 (by decide) (fun c19 => ?_) (fun c19 => ?_)
    · have hf := if_t c19 hf
      refine lv_aload_n hx hb dX6_limit_24 rfl (lv_at hl 0 rfl) ?_
      refine ld_f S iX6 hK hP 0 1 (.int ((q16.2) 1 0)) (gX6_0 _ _ _ _) rfl (by decide) k7 rfl rfl dX6_limit_25 ?_
      refine lv_istore_n (lv' := [(2, .int ((q16.2) 1 0)), (0, .ref (A 0)), (1, .int x1)]) hx hb dX6_limit_28 rfl hl (by decide) rfl (fun ls hl => ?_)
      refine lv_aload_n hx hb dX6_limit_29 rfl (lv_at hl 1 rfl) ?_
      refine lv_iload_n hx hb dX6_limit_30 rfl (lv_at hl 2 rfl) ?_
      refine st_f S iX6 tyX6 tyX6_ok nmX6 hK hP hD hS 0 1 (sX6_0_1 _ _ _ _ _) (gX6_0 _ _ _ _) rfl (by decide) k7 rfl rfl (by decide +kernel) rfl dX6_limit_31 (fun H locs hP hD hS => ?_)
      refine lv_iload_n hx hb dX6_limit_34 rfl (lv_at hl 0 rfl) ?_
      exact hR _ ls H locs _ _ (congrArg (fun q => q.1) (Option.some.inj hf)) (congrArg (fun q => (wX6 cI cZ A (q.2))) (Option.some.inj hf)) rfl dX6_limit_35 hP hD hS
    · have hf := if_f c19 hf
      refine lv_iconst (v := 0) hx hb dX6_limit_22 (by decide) ?_
      exact hR _ ls H locs _ _ (congrArg (fun q => q.1) (Option.some.inj hf)) (congrArg (fun q => (wX6 cI cZ A (q.2))) (Option.some.inj hf)) rfl dX6_limit_23 hP hD hS
  intro H locs hP hD hS ls hl
  have hl : lv_has ls 3 [(0, .ref (A 0)), (1, .int x1)] := hl
  unfold fX6_limit at hf
  refine lv_aload_n hx hb dX6_limit_0 rfl (lv_at hl 0 rfl) ?_
  refine lv_iload_n hx hb dX6_limit_1 rfl (lv_at hl 1 rfl) ?_
  refine lv_iconst (v := 1) hx hb dX6_limit_2 (by decide) ?_
  refine lv_bipush (v := 100) hx hb dX6_limit_3 (by decide) ?_
  obtain ⟨q5, h5, hf⟩ := bd_t hf
  refine cl_i (va_runS (As := [.int x1, .int 1, .int 100]) (rest := [.ref (A 0)]) S (mX6_isIn l D cI cZ x1 1 100 H.size q5 h5) (va_cwS 3 hts gX6_limit_X6_isIn rfl rfl rfl (by decide +kernel) ⟨Nat.le_of_ble_eq_true rfl, Nat.le_of_ble_eq_true rfl⟩) (mP_S (Cut.nil _) hP hD hK hG) rfl rfl hl.1 rfl (lv_room (Nat.le_of_ble_eq_true rfl)) dX6_limit_5 ⟨Nat.le_refl _, Nat.le_refl _⟩) (Cut.nil _) hP hD hS hA (fun H locs hP hD hS => ?_)
  refine lv_if_eq (tgt := 15) hx hb dX6_limit_8 (by decide) (fun c8 => ?_) (fun c8 => ?_)
  · have hf := if_t c8 hf
    refine lv_iconst (v := 1) hx hb dX6_limit_15 (by decide) ?_
    exact B16 _ _ _ hf H locs hP hD hS ls (lv_sub hl [0, 1] rfl)
  · have hf := if_f c8 hf
    refine lv_iconst (v := 0) hx hb dX6_limit_11 (by decide) ?_
    refine lv_goto (tgt := 16) hx hb dX6_limit_12 (by decide) ?_
    exact B16 _ _ _ hf H locs hP hD hS ls (lv_sub hl [0, 1] rfl)
set_option maxHeartbeats 4000000 in
set_option maxRecDepth 100000 in
theorem mX6_tells (l : Launch) (D : va_G) (cI cZ : ClassId) (A : Nat → Nat)  (mm : St) (sz : Nat) (res : St) (hf : fX6_tells mm = some res) : Met l yX6_tells wsX6_tells ({ frames := 0, cells := 0, slots := 0, locals := 0 }) (mP D (tysX cI cZ) [.ref (A 0)] (wX6 cI cZ A mm) sz) (mQv D (wX6 cI cZ A mm) (wX6 cI cZ A res) sz) 0 0 (va_A (wX6 cI cZ A mm) sz) := by
  refine mkM_v (cc := cX6_tells) (maxL := 4) (own := RX6) (by decide +kernel) rfl rfl (Nat.le_of_ble_eq_true rfl) ?_
  intro p e s m args below meth c A0 Q S hK hG hA hR
  obtain ⟨hx, hb, hml, hown, hts⟩ := id S
  have k17 := hts (.fieldLink RX6 17 "SwitchFloorModel" "wire" "[I") (by decide +kernel)
  have iX6 : ∀ w ∈ wsX60, w ∈ wsX6_tells := by decide +kernel
  have k69 := hts (.fieldLink RX6 69 "SwitchFloorModel" "cameRoot" "[I") (by decide +kernel)
  have k72 := hts (.fieldLink RX6 72 "SwitchFloorModel" "cameCost" "[I") (by decide +kernel)
  have k75 := hts (.fieldLink RX6 75 "SwitchFloorModel" "cameHops" "[I") (by decide +kernel)
  have k63 := hts (.fieldLink RX6 63 "SwitchFloorModel" "hops" "[I") (by decide +kernel)
  have k60 := hts (.fieldLink RX6 60 "SwitchFloorModel" "far" "[I") (by decide +kernel)
  have k57 := hts (.fieldLink RX6 57 "SwitchFloorModel" "root" "[I") (by decide +kernel)
  have k39 := hts (.fieldLink RX6 39 "SwitchFloorModel" "isShut" "[Z") (by decide +kernel)
  have B109 : ∀ (mm : St) (x1 : Int32) (y0 : Int32) (y1 : Int32) (k2 : (St × Int32) → Option (St)) (hk2 : ∀ a2, k2 a2 = some res → Bk p l e ({ frames := 0, cells := 0, slots := 0, locals := 0 }) s m args below meth c Q A0 D 4 0 0 (wX6 cI cZ A (a2.1)) [(0, .ref (A 0)), (1, .int (a2.2))] 2 []), fX6_tells_J109 k2 mm x1 y0 y1 = some res → Bk p l e ({ frames := 0, cells := 0, slots := 0, locals := 0 }) s m args below meth c Q A0 D 4 0 0 (wX6 cI cZ A mm) [(0, .ref (A 0)), (1, .int x1)] 109 [.int y0, .int y1, .ref (A 21)] := by
    intro mm x1 y0 y1 k2 hk2 hf
    unfold fX6_tells_J109 at hf
    intro H locs hP hD hS ls hl
    obtain ⟨c109, hf⟩ := ck_t hf
    refine st_i hx hb hK hP hD hS 21 0 (sX6_21 _ _ _ _ _ _) (gX6_21 _ _ _ _) rfl c109 dX6_tells_109 (fun H locs hP hD hS => ?_)
    refine lv_iinc (v := x1 + 1) (lv' := [(1, .int (x1 + 1)), (0, .ref (A 0))]) hx hb dX6_tells_110 hl (k := 1) rfl rfl (by decide) rfl (fun ls hl => ?_)
    refine lv_goto (tgt := 2) hx hb dX6_tells_113 (by decide) ?_
    exact hk2 _ hf H locs hP hD hS ls (lv_sub hl [1, 0] rfl)
  have B87 : ∀ (mm : St) (x1 : Int32) (x2 : Int32) (x3 : Int32) (y0 : Int32) (y1 : Int32) (k2 : (St × Int32) → Option (St)) (hk2 : ∀ a2, k2 a2 = some res → Bk p l e ({ frames := 0, cells := 0, slots := 0, locals := 0 }) s m args below meth c Q A0 D 4 0 0 (wX6 cI cZ A (a2.1)) [(0, .ref (A 0)), (1, .int (a2.2))] 2 []), fX6_tells_J87 k2 mm x1 x2 x3 y0 y1 = some res → Bk p l e ({ frames := 0, cells := 0, slots := 0, locals := 0 }) s m args below meth c Q A0 D 4 0 0 (wX6 cI cZ A mm) [(0, .ref (A 0)), (1, .int x1), (2, .int x2), (3, .int x3)] 87 [.int y0, .int y1, .ref (A 20)] := by
    intro mm x1 x2 x3 y0 y1 k2 hk2 hf
    unfold fX6_tells_J87 at hf
    intro H locs hP hD hS ls hl
    obtain ⟨c87, hf⟩ := ck_t hf
    refine st_i hx hb hK hP hD hS 20 0 (sX6_20 _ _ _ _ _ _) (gX6_20 _ _ _ _) rfl c87 dX6_tells_87 (fun H locs hP hD hS => ?_)
    refine lv_aload_n hx hb dX6_tells_88 rfl (lv_at hl 0 rfl) ?_
    refine ld_f S iX6 hK hP 0 22 (.ref (A 21)) (gX6_0 _ _ _ _) rfl (by decide) k75 rfl rfl dX6_tells_89 ?_
    refine lv_iload_n hx hb dX6_tells_92 rfl (lv_at hl 1 rfl) ?_
    refine lv_iload_n hx hb dX6_tells_93 rfl (lv_at hl 3 rfl) ?_
    refine lv_if_eq (tgt := 108) hx hb dX6_tells_94 (by decide) (fun c94 => ?_) (fun c94 => ?_)
    · have hf := if_t c94 hf
      refine lv_iconst (v := 0) hx hb dX6_tells_108 (by decide) ?_
      exact B109 _ _ _ _ k2 hk2 hf H locs hP hD hS ls (lv_sub hl [0, 1] rfl)
    · have hf := if_f c94 hf
      refine lv_aload_n hx hb dX6_tells_97 rfl (lv_at hl 0 rfl) ?_
      refine ld_f S iX6 hK hP 0 18 (.ref (A 17)) (gX6_0 _ _ _ _) rfl (by decide) k63 rfl rfl dX6_tells_98 ?_
      refine lv_iload_n hx hb dX6_tells_101 rfl (lv_at hl 2 rfl) ?_
      refine lv_iconst (v := 5) hx hb dX6_tells_102 (by decide) ?_
      refine lv_idiv hx hb dX6_tells_103 (by decide) ?_
      obtain ⟨c104, hf⟩ := ck_t hf
      refine va_iald (f := mm 18) hx hb hK hP 17 0 (gX6_17 _ _ _ _) rfl (inb_in c104) dX6_tells_104 ?_
      refine lv_goto (tgt := 109) hx hb dX6_tells_105 (by decide) ?_
      exact B109 _ _ _ _ k2 hk2 hf H locs hP hD hS ls (lv_sub hl [0, 1] rfl)
  have B65 : ∀ (mm : St) (x1 : Int32) (x2 : Int32) (x3 : Int32) (y0 : Int32) (y1 : Int32) (k2 : (St × Int32) → Option (St)) (hk2 : ∀ a2, k2 a2 = some res → Bk p l e ({ frames := 0, cells := 0, slots := 0, locals := 0 }) s m args below meth c Q A0 D 4 0 0 (wX6 cI cZ A (a2.1)) [(0, .ref (A 0)), (1, .int (a2.2))] 2 []), fX6_tells_J65 k2 mm x1 x2 x3 y0 y1 = some res → Bk p l e ({ frames := 0, cells := 0, slots := 0, locals := 0 }) s m args below meth c Q A0 D 4 0 0 (wX6 cI cZ A mm) [(0, .ref (A 0)), (1, .int x1), (2, .int x2), (3, .int x3)] 65 [.int y0, .int y1, .ref (A 19)] := by
    intro mm x1 x2 x3 y0 y1 k2 hk2 hf
    unfold fX6_tells_J65 at hf
    intro H locs hP hD hS ls hl
    obtain ⟨c65, hf⟩ := ck_t hf
    refine st_i hx hb hK hP hD hS 19 0 (sX6_19 _ _ _ _ _ _) (gX6_19 _ _ _ _) rfl c65 dX6_tells_65 (fun H locs hP hD hS => ?_)
    refine lv_aload_n hx hb dX6_tells_66 rfl (lv_at hl 0 rfl) ?_
    refine ld_f S iX6 hK hP 0 21 (.ref (A 20)) (gX6_0 _ _ _ _) rfl (by decide) k72 rfl rfl dX6_tells_67 ?_
    refine lv_iload_n hx hb dX6_tells_70 rfl (lv_at hl 1 rfl) ?_
    refine lv_iload_n hx hb dX6_tells_71 rfl (lv_at hl 3 rfl) ?_
    refine lv_if_eq (tgt := 86) hx hb dX6_tells_72 (by decide) (fun c72 => ?_) (fun c72 => ?_)
    · have hf := if_t c72 hf
      refine lv_iconst (v := 0) hx hb dX6_tells_86 (by decide) ?_
      exact B87 _ _ _ _ _ _ k2 hk2 hf H locs hP hD hS ls (lv_sub hl [0, 1, 2, 3] rfl)
    · have hf := if_f c72 hf
      refine lv_aload_n hx hb dX6_tells_75 rfl (lv_at hl 0 rfl) ?_
      refine ld_f S iX6 hK hP 0 17 (.ref (A 16)) (gX6_0 _ _ _ _) rfl (by decide) k60 rfl rfl dX6_tells_76 ?_
      refine lv_iload_n hx hb dX6_tells_79 rfl (lv_at hl 2 rfl) ?_
      refine lv_iconst (v := 5) hx hb dX6_tells_80 (by decide) ?_
      refine lv_idiv hx hb dX6_tells_81 (by decide) ?_
      obtain ⟨c82, hf⟩ := ck_t hf
      refine va_iald (f := mm 17) hx hb hK hP 16 0 (gX6_16 _ _ _ _) rfl (inb_in c82) dX6_tells_82 ?_
      refine lv_goto (tgt := 87) hx hb dX6_tells_83 (by decide) ?_
      exact B87 _ _ _ _ _ _ k2 hk2 hf H locs hP hD hS ls (lv_sub hl [0, 1, 2, 3] rfl)
  have B43 : ∀ (mm : St) (x1 : Int32) (x2 : Int32) (y0 : Int32) (k2 : (St × Int32) → Option (St)) (hk2 : ∀ a2, k2 a2 = some res → Bk p l e ({ frames := 0, cells := 0, slots := 0, locals := 0 }) s m args below meth c Q A0 D 4 0 0 (wX6 cI cZ A (a2.1)) [(0, .ref (A 0)), (1, .int (a2.2))] 2 []), fX6_tells_J43 k2 mm x1 x2 y0 = some res → Bk p l e ({ frames := 0, cells := 0, slots := 0, locals := 0 }) s m args below meth c Q A0 D 4 0 0 (wX6 cI cZ A mm) [(0, .ref (A 0)), (1, .int x1), (2, .int x2)] 43 [.int y0] := by
    intro mm x1 x2 y0 k2 hk2 hf
    unfold fX6_tells_J43 at hf
    intro H locs hP hD hS ls hl
    refine lv_istore_n (lv' := [(3, .int y0), (0, .ref (A 0)), (1, .int x1), (2, .int x2)]) hx hb dX6_tells_43 rfl hl (by decide) rfl (fun ls hl => ?_)
    refine lv_aload_n hx hb dX6_tells_44 rfl (lv_at hl 1 rfl) ?_
    refine ld_f S iX6 hK hP 0 20 (.ref (A 19)) (gX6_0 _ _ _ _) rfl (by decide) k69 rfl rfl dX6_tells_45 ?_
    refine lv_iload_n hx hb dX6_tells_48 rfl (lv_at hl 2 rfl) ?_
    refine lv_iload_n hx hb dX6_tells_49 rfl (lv_at hl 0 rfl) ?_
    refine lv_if_eq (tgt := 64) hx hb dX6_tells_50 (by decide) (fun c50 => ?_) (fun c50 => ?_)
    · have hf := if_t c50 hf
      refine lv_iconst (v := (-1)) hx hb dX6_tells_64 (by decide) ?_
      exact B65 _ _ _ _ _ _ k2 hk2 hf H locs hP hD hS ls (lv_sub hl [1, 2, 3, 0] rfl)
    · have hf := if_f c50 hf
      refine lv_aload_n hx hb dX6_tells_53 rfl (lv_at hl 1 rfl) ?_
      refine ld_f S iX6 hK hP 0 16 (.ref (A 15)) (gX6_0 _ _ _ _) rfl (by decide) k57 rfl rfl dX6_tells_54 ?_
      refine lv_iload_n hx hb dX6_tells_57 rfl (lv_at hl 3 rfl) ?_
      refine lv_iconst (v := 5) hx hb dX6_tells_58 (by decide) ?_
      refine lv_idiv hx hb dX6_tells_59 (by decide) ?_
      obtain ⟨c60, hf⟩ := ck_t hf
      refine va_iald (f := mm 16) hx hb hK hP 15 0 (gX6_15 _ _ _ _) rfl (inb_in c60) dX6_tells_60 ?_
      refine lv_goto (tgt := 65) hx hb dX6_tells_61 (by decide) ?_
      exact B65 _ _ _ _ _ _ k2 hk2 hf H locs hP hD hS ls (lv_sub hl [1, 2, 3, 0] rfl)
  have B42 : ∀ (mm : St) (x1 : Int32) (x2 : Int32) (k2 : (St × Int32) → Option (St)) (hk2 : ∀ a2, k2 a2 = some res → Bk p l e ({ frames := 0, cells := 0, slots := 0, locals := 0 }) s m args below meth c Q A0 D 4 0 0 (wX6 cI cZ A (a2.1)) [(0, .ref (A 0)), (1, .int (a2.2))] 2 []), fX6_tells_J42 k2 mm x1 x2 = some res → Bk p l e ({ frames := 0, cells := 0, slots := 0, locals := 0 }) s m args below meth c Q A0 D 4 0 0 (wX6 cI cZ A mm) [(0, .ref (A 0)), (1, .int x1), (2, .int x2)] 42 [] := by
    intro mm x1 x2 k2 hk2 hf
    unfold fX6_tells_J42 at hf
    intro H locs hP hD hS ls hl
    refine lv_iconst (v := 0) hx hb dX6_tells_42 (by decide) ?_
    exact B43 _ _ _ _ k2 hk2 hf H locs hP hD hS ls (lv_sub hl [0, 1, 2] rfl)
  have B2 : ∀ (mm : St) (x1 : Int32), fX6_tells_L2 mm x1 = some res → Bk p l e ({ frames := 0, cells := 0, slots := 0, locals := 0 }) s m args below meth c Q A0 D 4 0 0 (wX6 cI cZ A mm) [(0, .ref (A 0)), (1, .int x1)] 2 [] := by
    intro mm x1 hf
    refine loop_ind (step := (fun k a => fX6_tells_S2 k (a.1) (a.2))) (fun a => Bk p l e ({ frames := 0, cells := 0, slots := 0, locals := 0 }) s m args below meth c Q A0 D 4 0 0 (wX6 cI cZ A (a.1)) [(0, .ref (A 0)), (1, .int (a.2))] 2 []) ?_ _ _ hf
    clear hf
    intro k2 hk2 a hf
    obtain ⟨mm_, x1_⟩ := a
    clear mm x1
    obtain ⟨mm, e_⟩ : ∃ z, z = mm_ := ⟨_, rfl⟩
    subst e_
    obtain ⟨x1, e_⟩ : ∃ z, z = x1_ := ⟨_, rfl⟩
    subst e_
    have hf : fX6_tells_S2 k2 mm x1 = some res := hf
    show Bk p l e ({ frames := 0, cells := 0, slots := 0, locals := 0 }) s m args below meth c Q A0 D 4 0 0 (wX6 cI cZ A mm) [(0, .ref (A 0)), (1, .int x1)] 2 []
    unfold fX6_tells_S2 at hf
    intro H locs hP hD hS ls hl
    refine lv_iload_n hx hb dX6_tells_2 rfl (lv_at hl 1 rfl) ?_
    refine lv_bipush (v := 30) hx hb dX6_tells_3 (by decide) ?_
    refine lv_icmp_ge (tgt := 116) hx hb dX6_tells_5 (by decide) (fun c5 => ?_) (fun c5 => ?_)
    · have hf := if_t c5 hf
      exact hR _ ls H locs _ (congrArg (fun q => (wX6 cI cZ A q)) (Option.some.inj hf)) dX6_tells_116 hP hD hS
    · have hf := if_f c5 hf
      refine lv_aload_n hx hb dX6_tells_8 rfl (lv_at hl 0 rfl) ?_
      refine ld_f S iX6 hK hP 0 3 (.ref (A 2)) (gX6_0 _ _ _ _) rfl (by decide) k17 rfl rfl dX6_tells_9 ?_
      refine lv_iload_n hx hb dX6_tells_12 rfl (lv_at hl 1 rfl) ?_
      obtain ⟨c13, hf⟩ := ck_t hf
      refine va_iald (f := mm 3) hx hb hK hP 2 0 (gX6_2 _ _ _ _) rfl (inb_in c13) dX6_tells_13 ?_
      refine lv_istore_n (lv' := [(2, .int (mm 3 x1.toNatClampNeg)), (0, .ref (A 0)), (1, .int x1)]) hx hb dX6_tells_14 rfl hl (by decide) rfl (fun ls hl => ?_)
      refine lv_iload_n hx hb dX6_tells_15 rfl (lv_at hl 0 rfl) ?_
      refine lv_iconst (v := (-1)) hx hb dX6_tells_16 (by decide) ?_
      refine lv_icmp_eq (tgt := 42) hx hb dX6_tells_17 (by decide) (fun c17 => ?_) (fun c17 => ?_)
      · have hf := if_t c17 hf
        exact B42 _ _ _ k2 hk2 hf H locs hP hD hS ls (lv_sub hl [1, 2, 0] rfl)
      · have hf := if_f c17 hf
        refine lv_aload_n hx hb dX6_tells_20 rfl (lv_at hl 1 rfl) ?_
        refine ld_f S iX6 hK hP 0 10 (.ref (A 9)) (gX6_0 _ _ _ _) rfl (by decide) k39 rfl rfl dX6_tells_21 ?_
        refine lv_iload_n hx hb dX6_tells_24 rfl (lv_at hl 2 rfl) ?_
        obtain ⟨c25, hf⟩ := ck_t hf
        refine va_zald (f := mm 10) hx hb hK hP 9 1 (gX6_9 _ _ _ _) rfl (inb_in c25) dX6_tells_25 ?_
        refine lv_if_ne (tgt := 42) hx hb dX6_tells_26 (by decide) (fun c26 => ?_) (fun c26 => ?_)
        · have hf := if_f c26 hf
          exact B42 _ _ _ k2 hk2 hf H locs hP hD hS ls (lv_sub hl [1, 2, 0] rfl)
        · have hf := if_t c26 hf
          refine lv_aload_n hx hb dX6_tells_29 rfl (lv_at hl 1 rfl) ?_
          refine ld_f S iX6 hK hP 0 10 (.ref (A 9)) (gX6_0 _ _ _ _) rfl (by decide) k39 rfl rfl dX6_tells_30 ?_
          refine lv_iload_n hx hb dX6_tells_33 rfl (lv_at hl 0 rfl) ?_
          obtain ⟨c34, hf⟩ := ck_t hf
          refine va_zald (f := mm 10) hx hb hK hP 9 1 (gX6_9 _ _ _ _) rfl (inb_in c34) dX6_tells_34 ?_
          refine lv_if_ne (tgt := 42) hx hb dX6_tells_35 (by decide) (fun c35 => ?_) (fun c35 => ?_)
          · have hf := if_f c35 hf
            exact B42 _ _ _ k2 hk2 hf H locs hP hD hS ls (lv_sub hl [1, 2, 0] rfl)
          · have hf := if_t c35 hf
            refine lv_iconst (v := 1) hx hb dX6_tells_38 (by decide) ?_
            refine lv_goto (tgt := 43) hx hb dX6_tells_39 (by decide) ?_
            exact B43 _ _ _ _ k2 hk2 hf H locs hP hD hS ls (lv_sub hl [1, 2, 0] rfl)
  intro H locs hP hD hS ls hl
  have hl : lv_has ls 4 [(0, .ref (A 0))] := hl
  unfold fX6_tells at hf
  refine lv_iconst (v := 0) hx hb dX6_tells_0 (by decide) ?_
  refine lv_istore_n (lv' := [(1, .int 0), (0, .ref (A 0))]) hx hb dX6_tells_1 rfl hl (by decide) rfl (fun ls hl => ?_)
  exact B2 _ _ hf H locs hP hD hS ls (lv_sub hl [1, 0] rfl)
set_option maxHeartbeats 4000000 in
set_option maxRecDepth 100000 in
theorem mX6_guardsHouses (l : Launch) (D : va_G) (cI cZ : ClassId) (A : Nat → Nat)  (mm : St) (sz : Nat) (res : St) (hf : fX6_guardsHouses mm = some res) : Met l yX6_guardsHouses wsX6_guardsHouses ({ frames := 3, cells := 0, slots := 0, locals := 67 }) (mP D (tysX cI cZ) [.ref (A 0)] (wX6 cI cZ A mm) sz) (mQv D (wX6 cI cZ A mm) (wX6 cI cZ A res) sz) 0 0 (va_A (wX6 cI cZ A mm) sz) := by
  refine mkM_v (cc := cX6_guardsHouses) (maxL := 2) (own := RX6) (by decide +kernel) rfl rfl (Nat.le_of_ble_eq_true rfl) ?_
  intro p e s m args below meth c A0 Q S hK hG hA hR
  obtain ⟨hx, hb, hml, hown, hts⟩ := id S
  have k26 := hts (.fieldLink RX6 26 "SwitchFloorModel" "guard" "[I") (by decide +kernel)
  have iX6 : ∀ w ∈ wsX60, w ∈ wsX6_guardsHouses := by decide +kernel
  have k69 := hts (.fieldLink RX6 69 "SwitchFloorModel" "cameRoot" "[I") (by decide +kernel)
  have B2 : ∀ (mm : St) (x1 : Int32), fX6_guardsHouses_L2 mm x1 = some res → Bk p l e ({ frames := 3, cells := 0, slots := 0, locals := 67 }) s m args below meth c Q A0 D 2 0 0 (wX6 cI cZ A mm) [(0, .ref (A 0)), (1, .int x1)] 2 [] := by
    intro mm x1 hf
    refine loop_ind (step := (fun k a => fX6_guardsHouses_S2 k (a.1) (a.2))) (fun a => Bk p l e ({ frames := 3, cells := 0, slots := 0, locals := 67 }) s m args below meth c Q A0 D 2 0 0 (wX6 cI cZ A (a.1)) [(0, .ref (A 0)), (1, .int (a.2))] 2 []) ?_ _ _ hf
    clear hf
    intro k2 hk2 a hf
    obtain ⟨mm_, x1_⟩ := a
    clear mm x1
    obtain ⟨mm, e_⟩ : ∃ z, z = mm_ := ⟨_, rfl⟩
    subst e_
    obtain ⟨x1, e_⟩ : ∃ z, z = x1_ := ⟨_, rfl⟩
    subst e_
    have hf : fX6_guardsHouses_S2 k2 mm x1 = some res := hf
    show Bk p l e ({ frames := 3, cells := 0, slots := 0, locals := 67 }) s m args below meth c Q A0 D 2 0 0 (wX6 cI cZ A mm) [(0, .ref (A 0)), (1, .int x1)] 2 []
    unfold fX6_guardsHouses_S2 at hf
    intro H locs hP hD hS ls hl
    refine lv_iload_n hx hb dX6_guardsHouses_2 rfl (lv_at hl 1 rfl) ?_
    refine lv_bipush (v := 30) hx hb dX6_guardsHouses_3 (by decide) ?_
    refine lv_icmp_ge (tgt := 46) hx hb dX6_guardsHouses_5 (by decide) (fun c5 => ?_) (fun c5 => ?_)
    · have hf := if_t c5 hf
      exact hR _ ls H locs _ (congrArg (fun q => (wX6 cI cZ A q)) (Option.some.inj hf)) dX6_guardsHouses_46 hP hD hS
    · have hf := if_f c5 hf
      refine lv_aload_n hx hb dX6_guardsHouses_8 rfl (lv_at hl 0 rfl) ?_
      refine ld_f S iX6 hK hP 0 6 (.ref (A 5)) (gX6_0 _ _ _ _) rfl (by decide) k26 rfl rfl dX6_guardsHouses_9 ?_
      refine lv_iload_n hx hb dX6_guardsHouses_12 rfl (lv_at hl 1 rfl) ?_
      obtain ⟨c13, hf⟩ := ck_t hf
      refine va_iald (f := mm 6) hx hb hK hP 5 0 (gX6_5 _ _ _ _) rfl (inb_in c13) dX6_guardsHouses_13 ?_
      refine lv_iconst (v := 2) hx hb dX6_guardsHouses_14 (by decide) ?_
      refine lv_icmp_ne (tgt := 40) hx hb dX6_guardsHouses_15 (by decide) (fun c15 => ?_) (fun c15 => ?_)
      · have hf := if_f c15 hf
        refine lv_iinc (v := x1 + 1) (lv' := [(1, .int (x1 + 1)), (0, .ref (A 0))]) hx hb dX6_guardsHouses_40 hl (k := 1) rfl rfl (by decide) rfl (fun ls hl => ?_)
        refine lv_goto (tgt := 2) hx hb dX6_guardsHouses_43 (by decide) ?_
        exact hk2 _ hf H locs hP hD hS ls (lv_sub hl [1, 0] rfl)
      · have hf := if_t c15 hf
        refine lv_aload_n hx hb dX6_guardsHouses_18 rfl (lv_at hl 0 rfl) ?_
        refine ld_f S iX6 hK hP 0 20 (.ref (A 19)) (gX6_0 _ _ _ _) rfl (by decide) k69 rfl rfl dX6_guardsHouses_19 ?_
        refine lv_iload_n hx hb dX6_guardsHouses_22 rfl (lv_at hl 1 rfl) ?_
        obtain ⟨c23, hf⟩ := ck_t hf
        refine va_iald (f := mm 20) hx hb hK hP 19 0 (gX6_19 _ _ _ _) rfl (inb_in c23) dX6_guardsHouses_23 ?_
        refine lv_iconst (v := (-1)) hx hb dX6_guardsHouses_24 (by decide) ?_
        refine lv_icmp_eq (tgt := 40) hx hb dX6_guardsHouses_25 (by decide) (fun c25 => ?_) (fun c25 => ?_)
        · have hf := if_t c25 hf
          refine lv_iinc (v := x1 + 1) (lv' := [(1, .int (x1 + 1)), (0, .ref (A 0))]) hx hb dX6_guardsHouses_40 hl (k := 1) rfl rfl (by decide) rfl (fun ls hl => ?_)
          refine lv_goto (tgt := 2) hx hb dX6_guardsHouses_43 (by decide) ?_
          exact hk2 _ hf H locs hP hD hS ls (lv_sub hl [1, 0] rfl)
        · have hf := if_f c25 hf
          refine lv_aload_n hx hb dX6_guardsHouses_28 rfl (lv_at hl 0 rfl) ?_
          refine ld_f S iX6 hK hP 0 20 (.ref (A 19)) (gX6_0 _ _ _ _) rfl (by decide) k69 rfl rfl dX6_guardsHouses_29 ?_
          refine lv_iload_n hx hb dX6_guardsHouses_32 rfl (lv_at hl 1 rfl) ?_
          refine lv_iconst (v := (-1)) hx hb dX6_guardsHouses_33 (by decide) ?_
          obtain ⟨c34, hf⟩ := ck_t hf
          refine st_i hx hb hK hP hD hS 19 0 (sX6_19 _ _ _ _ _ _) (gX6_19 _ _ _ _) rfl c34 dX6_guardsHouses_34 (fun H locs hP hD hS => ?_)
          refine lv_aload_n hx hb dX6_guardsHouses_35 rfl (lv_at hl 0 rfl) ?_
          refine lv_iload_n hx hb dX6_guardsHouses_36 rfl (lv_at hl 1 rfl) ?_
          obtain ⟨q37, h37, hf⟩ := bd_t hf
          refine cl_v (va_runV (As := [.int x1]) (rest := []) S (mX6_shuts l D cI cZ A (aS mm 20 x1 (-1)) x1 H.size q37 h37) (cwV 1 hts gX6_guardsHouses_X6_shuts rfl rfl rfl (by decide +kernel) ⟨Nat.le_of_ble_eq_true rfl, Nat.le_of_ble_eq_true rfl⟩) (mP_V (ci := 6) (Cut.self _ []) hP hD hK hG rfl (gX6_0 _ _ _ _)) rfl rfl hl.1 rfl (lv_room (Nat.le_of_ble_eq_true rfl)) dX6_guardsHouses_37 ⟨Nat.le_refl _, Nat.le_refl _⟩) (Cut.self _ _) hP hD hS hA (fun H locs hP hD hS => ?_)
          refine lv_iinc (v := x1 + 1) (lv' := [(1, .int (x1 + 1)), (0, .ref (A 0))]) hx hb dX6_guardsHouses_40 hl (k := 1) rfl rfl (by decide) rfl (fun ls hl => ?_)
          refine lv_goto (tgt := 2) hx hb dX6_guardsHouses_43 (by decide) ?_
          exact hk2 _ hf H locs hP hD hS ls (lv_sub hl [1, 0] rfl)
  intro H locs hP hD hS ls hl
  have hl : lv_has ls 2 [(0, .ref (A 0))] := hl
  unfold fX6_guardsHouses at hf
  refine lv_iconst (v := 0) hx hb dX6_guardsHouses_0 (by decide) ?_
  refine lv_istore_n (lv' := [(1, .int 0), (0, .ref (A 0))]) hx hb dX6_guardsHouses_1 rfl hl (by decide) rfl (fun ls hl => ?_)
  exact B2 _ _ hf H locs hP hD hS ls (lv_sub hl [1, 0] rfl)
set_option maxHeartbeats 4000000 in
set_option maxRecDepth 100000 in
theorem mX6_isBetterBy (l : Launch) (D : va_G) (cI cZ : ClassId) (A : Nat → Nat)  (mm : St) (x1 : Int32) (x2 : Int32) (x3 : Int32) (sz : Nat) (res : Int32) (hf : fX6_isBetterBy mm x1 x2 x3 = some res) : Met l yX6_isBetterBy wsX6_isBetterBy ({ frames := 1, cells := 0, slots := 0, locals := 22 }) (mP D (tysX cI cZ) [.ref (A 0), .int x1, .int x2, .int x3] (wX6 cI cZ A mm) sz) (mQi D res (wX6 cI cZ A mm) (wX6 cI cZ A mm) sz) 0 0 (va_A (wX6 cI cZ A mm) sz) := by
  refine mkM_i (cc := cX6_isBetterBy) (maxL := 10) (own := RX6) (by decide +kernel) rfl rfl (Nat.le_of_ble_eq_true rfl) ?_
  intro p e s m args below meth c A0 Q S hK hG hA hR
  obtain ⟨hx, hb, hml, hown, hts⟩ := id S
  have k69 := hts (.fieldLink RX6 69 "SwitchFloorModel" "cameRoot" "[I") (by decide +kernel)
  have iX6 : ∀ w ∈ wsX60, w ∈ wsX6_isBetterBy := by decide +kernel
  have k72 := hts (.fieldLink RX6 72 "SwitchFloorModel" "cameCost" "[I") (by decide +kernel)
  have k20 := hts (.fieldLink RX6 20 "SwitchFloorModel" "cost" "[I") (by decide +kernel)
  have k17 := hts (.fieldLink RX6 17 "SwitchFloorModel" "wire" "[I") (by decide +kernel)
  have B92 : ∀ (x6 : Int32) (x7 : Int32), fX6_isBetterBy_J92 mm x6 x7 = some res → Bk p l e ({ frames := 1, cells := 0, slots := 0, locals := 22 }) s m args below meth c Q A0 D 10 0 0 (wX6 cI cZ A mm) [(6, .int x6), (7, .int x7)] 92 [] := by
    intro x6 x7 hf
    unfold fX6_isBetterBy_J92 at hf
    intro H locs hP hD hS ls hl
    refine lv_iload hx hb dX6_isBetterBy_92 (lv_at hl 0 rfl) ?_
    refine lv_iload hx hb dX6_isBetterBy_94 (lv_at hl 1 rfl) ?_
    refine lv_icmp_ge (tgt := 103) hx hb dX6_isBetterBy_96 (by decide) (fun c96 => ?_) (fun c96 => ?_)
    · have hf := if_t c96 hf
      refine lv_iconst (v := 0) hx hb dX6_isBetterBy_103 (by decide) ?_
      exact hR _ ls H locs _ _ (congrArg (fun q => q) (Option.some.inj hf)) rfl (by decide) dX6_isBetterBy_104 hP hD hS
    · have hf := if_f c96 hf
      refine lv_iconst (v := 1) hx hb dX6_isBetterBy_99 (by decide) ?_
      refine lv_goto (tgt := 104) hx hb dX6_isBetterBy_100 (by decide) ?_
      exact hR _ ls H locs _ _ (congrArg (fun q => q) (Option.some.inj hf)) rfl (by decide) dX6_isBetterBy_104 hP hD hS
  have B78 : ∀ (x2 : Int32) (x3 : Int32) (x6 : Int32) (y0 : Int32), fX6_isBetterBy_J78 mm x2 x3 x6 y0 = some res → Bk p l e ({ frames := 1, cells := 0, slots := 0, locals := 22 }) s m args below meth c Q A0 D 10 0 0 (wX6 cI cZ A mm) [(0, .ref (A 0)), (2, .int x2), (3, .int x3), (6, .int x6)] 78 [.int y0] := by
    intro x2 x3 x6 y0 hf
    unfold fX6_isBetterBy_J78 at hf
    intro H locs hP hD hS ls hl
    refine lv_istore (lv' := [(7, .int y0), (0, .ref (A 0)), (2, .int x2), (3, .int x3), (6, .int x6)]) hx hb dX6_isBetterBy_78 hl (by decide) rfl (fun ls hl => ?_)
    refine lv_iload hx hb dX6_isBetterBy_80 (lv_at hl 4 rfl) ?_
    refine lv_iload hx hb dX6_isBetterBy_82 (lv_at hl 0 rfl) ?_
    refine lv_icmp_ne (tgt := 92) hx hb dX6_isBetterBy_84 (by decide) (fun c84 => ?_) (fun c84 => ?_)
    · have hf := if_f c84 hf
      exact B92 _ _ hf H locs hP hD hS ls (lv_sub hl [4, 0] rfl)
    · have hf := if_t c84 hf
      refine lv_iload_n hx hb dX6_isBetterBy_87 rfl (lv_at hl 3 rfl) ?_
      refine lv_iconst (v := (-1)) hx hb dX6_isBetterBy_88 (by decide) ?_
      refine lv_icmp_ne (tgt := 105) hx hb dX6_isBetterBy_89 (by decide) (fun c89 => ?_) (fun c89 => ?_)
      · have hf := if_f c89 hf
        refine lv_aload_n hx hb dX6_isBetterBy_105 rfl (lv_at hl 1 rfl) ?_
        refine ld_f S iX6 hK hP 0 3 (.ref (A 2)) (gX6_0 _ _ _ _) rfl (by decide) k17 rfl rfl dX6_isBetterBy_106 ?_
        refine lv_iload_n hx hb dX6_isBetterBy_109 rfl (lv_at hl 2 rfl) ?_
        obtain ⟨c110, hf⟩ := ck_t hf
        refine va_iald (f := mm 3) hx hb hK hP 2 0 (gX6_2 _ _ _ _) rfl (inb_in c110) dX6_isBetterBy_110 ?_
        refine lv_istore (lv' := [(8, .int (mm 3 x2.toNatClampNeg)), (7, .int y0), (0, .ref (A 0)), (2, .int x2), (3, .int x3), (6, .int x6)]) hx hb dX6_isBetterBy_111 hl (by decide) rfl (fun ls hl => ?_)
        refine lv_aload_n hx hb dX6_isBetterBy_113 rfl (lv_at hl 2 rfl) ?_
        refine ld_f S iX6 hK hP 0 3 (.ref (A 2)) (gX6_0 _ _ _ _) rfl (by decide) k17 rfl rfl dX6_isBetterBy_114 ?_
        refine lv_iload_n hx hb dX6_isBetterBy_117 rfl (lv_at hl 4 rfl) ?_
        obtain ⟨c118, hf⟩ := ck_t hf
        refine va_iald (f := mm 3) hx hb hK hP 2 0 (gX6_2 _ _ _ _) rfl (inb_in c118) dX6_isBetterBy_118 ?_
        refine lv_istore (lv' := [(9, .int (mm 3 x3.toNatClampNeg)), (8, .int (mm 3 x2.toNatClampNeg)), (7, .int y0), (0, .ref (A 0)), (2, .int x2), (3, .int x3), (6, .int x6)]) hx hb dX6_isBetterBy_119 hl (by decide) rfl (fun ls hl => ?_)
        refine lv_iload hx hb dX6_isBetterBy_121 (lv_at hl 1 rfl) ?_
        refine lv_iconst (v := 5) hx hb dX6_isBetterBy_123 (by decide) ?_
        refine lv_idiv hx hb dX6_isBetterBy_124 (by decide) ?_
        refine lv_iload hx hb dX6_isBetterBy_125 (lv_at hl 0 rfl) ?_
        refine lv_iconst (v := 5) hx hb dX6_isBetterBy_127 (by decide) ?_
        refine lv_idiv hx hb dX6_isBetterBy_128 (by decide) ?_
        refine lv_icmp_eq (tgt := 147) hx hb dX6_isBetterBy_129 (by decide) (fun c129 => ?_) (fun c129 => ?_)
        · have hf := if_t c129 hf
          refine lv_iload hx hb dX6_isBetterBy_147 (lv_at hl 1 rfl) ?_
          refine lv_iload hx hb dX6_isBetterBy_149 (lv_at hl 0 rfl) ?_
          refine lv_icmp_ge (tgt := 158) hx hb dX6_isBetterBy_151 (by decide) (fun c151 => ?_) (fun c151 => ?_)
          · have hf := if_t c151 hf
            refine lv_iconst (v := 0) hx hb dX6_isBetterBy_158 (by decide) ?_
            exact hR _ ls H locs _ _ (congrArg (fun q => q) (Option.some.inj hf)) rfl (by decide) dX6_isBetterBy_159 hP hD hS
          · have hf := if_f c151 hf
            refine lv_iconst (v := 1) hx hb dX6_isBetterBy_154 (by decide) ?_
            refine lv_goto (tgt := 159) hx hb dX6_isBetterBy_155 (by decide) ?_
            exact hR _ ls H locs _ _ (congrArg (fun q => q) (Option.some.inj hf)) rfl (by decide) dX6_isBetterBy_159 hP hD hS
        · have hf := if_f c129 hf
          refine lv_aload_n hx hb dX6_isBetterBy_132 rfl (lv_at hl 3 rfl) ?_
          refine lv_iload hx hb dX6_isBetterBy_133 (lv_at hl 1 rfl) ?_
          refine lv_iconst (v := 5) hx hb dX6_isBetterBy_135 (by decide) ?_
          refine lv_idiv hx hb dX6_isBetterBy_136 (by decide) ?_
          refine lv_iload hx hb dX6_isBetterBy_137 (lv_at hl 0 rfl) ?_
          refine lv_iconst (v := 5) hx hb dX6_isBetterBy_139 (by decide) ?_
          refine lv_idiv hx hb dX6_isBetterBy_140 (by decide) ?_
          obtain ⟨q141, h141, hf⟩ := bd_t hf
          refine cl_i (va_runV (As := [.int ((mm 3 x2.toNatClampNeg) / 5), .int ((mm 3 x3.toNatClampNeg) / 5)]) (rest := []) S (mX6_isBetter l D cI cZ A mm ((mm 3 x2.toNatClampNeg) / 5) ((mm 3 x3.toNatClampNeg) / 5) H.size q141 h141) (cwV 2 hts gX6_isBetterBy_X6_isBetter rfl rfl rfl (by decide +kernel) ⟨Nat.le_of_ble_eq_true rfl, Nat.le_of_ble_eq_true rfl⟩) (mP_V (ci := 6) (Cut.self _ []) hP hD hK hG rfl (gX6_0 _ _ _ _)) rfl rfl hl.1 rfl (lv_room (Nat.le_of_ble_eq_true rfl)) dX6_isBetterBy_141 ⟨Nat.le_refl _, Nat.le_refl _⟩) (Cut.self _ _) hP hD hS hA (fun H locs hP hD hS => ?_)
          refine lv_goto (tgt := 159) hx hb dX6_isBetterBy_144 (by decide) ?_
          obtain ⟨c159, hf⟩ := ck_t hf
          exact hR _ ls H locs _ _ (congrArg (fun q => q) (Option.some.inj hf)) rfl (isb_n c159) dX6_isBetterBy_159 hP hD hS
      · have hf := if_t c89 hf
        exact B92 _ _ hf H locs hP hD hS ls (lv_sub hl [4, 0] rfl)
  have B23 : ∀ (x2 : Int32) (x3 : Int32) (x4 : Int32) (y0 : Int32), fX6_isBetterBy_J23 mm x2 x3 x4 y0 = some res → Bk p l e ({ frames := 1, cells := 0, slots := 0, locals := 22 }) s m args below meth c Q A0 D 10 0 0 (wX6 cI cZ A mm) [(0, .ref (A 0)), (2, .int x2), (3, .int x3), (4, .int x4)] 23 [.int y0] := by
    intro x2 x3 x4 y0 hf
    unfold fX6_isBetterBy_J23 at hf
    intro H locs hP hD hS ls hl
    refine lv_istore (lv' := [(5, .int y0), (0, .ref (A 0)), (2, .int x2), (3, .int x3), (4, .int x4)]) hx hb dX6_isBetterBy_23 hl (by decide) rfl (fun ls hl => ?_)
    refine lv_iload hx hb dX6_isBetterBy_25 (lv_at hl 4 rfl) ?_
    refine lv_iload hx hb dX6_isBetterBy_27 (lv_at hl 0 rfl) ?_
    refine lv_icmp_eq (tgt := 41) hx hb dX6_isBetterBy_29 (by decide) (fun c29 => ?_) (fun c29 => ?_)
    · have hf := if_t c29 hf
      refine lv_aload_n hx hb dX6_isBetterBy_41 rfl (lv_at hl 1 rfl) ?_
      refine ld_f S iX6 hK hP 0 21 (.ref (A 20)) (gX6_0 _ _ _ _) rfl (by decide) k72 rfl rfl dX6_isBetterBy_42 ?_
      refine lv_iload_n hx hb dX6_isBetterBy_45 rfl (lv_at hl 2 rfl) ?_
      obtain ⟨c46, hf⟩ := ck_t hf
      refine va_iald (f := mm 21) hx hb hK hP 20 0 (gX6_20 _ _ _ _) rfl (inb_in c46) dX6_isBetterBy_46 ?_
      refine lv_aload_n hx hb dX6_isBetterBy_47 rfl (lv_at hl 1 rfl) ?_
      refine ld_f S iX6 hK hP 0 4 (.ref (A 3)) (gX6_0 _ _ _ _) rfl (by decide) k20 rfl rfl dX6_isBetterBy_48 ?_
      refine lv_iload_n hx hb dX6_isBetterBy_51 rfl (lv_at hl 2 rfl) ?_
      obtain ⟨c52, hf⟩ := ck_t hf
      refine va_iald (f := mm 4) hx hb hK hP 3 0 (gX6_3 _ _ _ _) rfl (inb_in c52) dX6_isBetterBy_52 ?_
      refine lv_iadd hx hb dX6_isBetterBy_53 ?_
      refine lv_istore (lv' := [(6, .int ((mm 21 x2.toNatClampNeg) + (mm 4 x2.toNatClampNeg))), (5, .int y0), (0, .ref (A 0)), (2, .int x2), (3, .int x3), (4, .int x4)]) hx hb dX6_isBetterBy_54 hl (by decide) rfl (fun ls hl => ?_)
      refine lv_iload_n hx hb dX6_isBetterBy_56 rfl (lv_at hl 4 rfl) ?_
      refine lv_iconst (v := (-1)) hx hb dX6_isBetterBy_57 (by decide) ?_
      refine lv_icmp_ne (tgt := 65) hx hb dX6_isBetterBy_58 (by decide) (fun c58 => ?_) (fun c58 => ?_)
      · have hf := if_f c58 hf
        refine lv_aload_n hx hb dX6_isBetterBy_65 rfl (lv_at hl 2 rfl) ?_
        refine ld_f S iX6 hK hP 0 21 (.ref (A 20)) (gX6_0 _ _ _ _) rfl (by decide) k72 rfl rfl dX6_isBetterBy_66 ?_
        refine lv_iload_n hx hb dX6_isBetterBy_69 rfl (lv_at hl 4 rfl) ?_
        obtain ⟨c70, hf⟩ := ck_t hf
        refine va_iald (f := mm 21) hx hb hK hP 20 0 (gX6_20 _ _ _ _) rfl (inb_in c70) dX6_isBetterBy_70 ?_
        refine lv_aload_n hx hb dX6_isBetterBy_71 rfl (lv_at hl 2 rfl) ?_
        refine ld_f S iX6 hK hP 0 4 (.ref (A 3)) (gX6_0 _ _ _ _) rfl (by decide) k20 rfl rfl dX6_isBetterBy_72 ?_
        refine lv_iload_n hx hb dX6_isBetterBy_75 rfl (lv_at hl 4 rfl) ?_
        obtain ⟨c76, hf⟩ := ck_t hf
        refine va_iald (f := mm 4) hx hb hK hP 3 0 (gX6_3 _ _ _ _) rfl (inb_in c76) dX6_isBetterBy_76 ?_
        refine lv_iadd hx hb dX6_isBetterBy_77 ?_
        exact B78 _ _ _ _ hf H locs hP hD hS ls (lv_sub hl [2, 3, 4, 0] rfl)
      · have hf := if_t c58 hf
        refine lv_iconst (v := 0) hx hb dX6_isBetterBy_61 (by decide) ?_
        refine lv_goto (tgt := 78) hx hb dX6_isBetterBy_62 (by decide) ?_
        exact B78 _ _ _ _ hf H locs hP hD hS ls (lv_sub hl [2, 3, 4, 0] rfl)
    · have hf := if_f c29 hf
      refine lv_aload_n hx hb dX6_isBetterBy_32 rfl (lv_at hl 1 rfl) ?_
      refine lv_iload hx hb dX6_isBetterBy_33 (lv_at hl 4 rfl) ?_
      refine lv_iload hx hb dX6_isBetterBy_35 (lv_at hl 0 rfl) ?_
      obtain ⟨q37, h37, hf⟩ := bd_t hf
      refine cl_i (va_runV (As := [.int x4, .int y0]) (rest := []) S (mX6_isBetter l D cI cZ A mm x4 y0 H.size q37 h37) (cwV 2 hts gX6_isBetterBy_X6_isBetter rfl rfl rfl (by decide +kernel) ⟨Nat.le_of_ble_eq_true rfl, Nat.le_of_ble_eq_true rfl⟩) (mP_V (ci := 6) (Cut.self _ []) hP hD hK hG rfl (gX6_0 _ _ _ _)) rfl rfl hl.1 rfl (lv_room (Nat.le_of_ble_eq_true rfl)) dX6_isBetterBy_37 ⟨Nat.le_refl _, Nat.le_refl _⟩) (Cut.self _ _) hP hD hS hA (fun H locs hP hD hS => ?_)
      obtain ⟨c40, hf⟩ := ck_t hf
      exact hR _ ls H locs _ _ (congrArg (fun q => q) (Option.some.inj hf)) rfl (isb_n c40) dX6_isBetterBy_40 hP hD hS
  intro H locs hP hD hS ls hl
  have hl : lv_has ls 10 [(0, .ref (A 0)), (1, .int x1), (2, .int x2), (3, .int x3)] := hl
  unfold fX6_isBetterBy at hf
  refine lv_aload_n hx hb dX6_isBetterBy_0 rfl (lv_at hl 0 rfl) ?_
  refine ld_f S iX6 hK hP 0 20 (.ref (A 19)) (gX6_0 _ _ _ _) rfl (by decide) k69 rfl rfl dX6_isBetterBy_1 ?_
  refine lv_iload_n hx hb dX6_isBetterBy_4 rfl (lv_at hl 2 rfl) ?_
  obtain ⟨c5, hf⟩ := ck_t hf
  refine va_iald (f := mm 20) hx hb hK hP 19 0 (gX6_19 _ _ _ _) rfl (inb_in c5) dX6_isBetterBy_5 ?_
  refine lv_istore (lv' := [(4, .int (mm 20 x2.toNatClampNeg)), (0, .ref (A 0)), (1, .int x1), (2, .int x2), (3, .int x3)]) hx hb dX6_isBetterBy_6 hl (by decide) rfl (fun ls hl => ?_)
  refine lv_iload_n hx hb dX6_isBetterBy_8 rfl (lv_at hl 4 rfl) ?_
  refine lv_iconst (v := (-1)) hx hb dX6_isBetterBy_9 (by decide) ?_
  refine lv_icmp_ne (tgt := 17) hx hb dX6_isBetterBy_10 (by decide) (fun c10 => ?_) (fun c10 => ?_)
  · have hf := if_f c10 hf
    refine lv_aload_n hx hb dX6_isBetterBy_17 rfl (lv_at hl 1 rfl) ?_
    refine ld_f S iX6 hK hP 0 20 (.ref (A 19)) (gX6_0 _ _ _ _) rfl (by decide) k69 rfl rfl dX6_isBetterBy_18 ?_
    refine lv_iload_n hx hb dX6_isBetterBy_21 rfl (lv_at hl 4 rfl) ?_
    obtain ⟨c22, hf⟩ := ck_t hf
    refine va_iald (f := mm 20) hx hb hK hP 19 0 (gX6_19 _ _ _ _) rfl (inb_in c22) dX6_isBetterBy_22 ?_
    exact B23 _ _ _ _ hf H locs hP hD hS ls (lv_sub hl [1, 3, 4, 0] rfl)
  · have hf := if_t c10 hf
    refine lv_iload_n hx hb dX6_isBetterBy_13 rfl (lv_at hl 2 rfl) ?_
    refine lv_goto (tgt := 23) hx hb dX6_isBetterBy_14 (by decide) ?_
    exact B23 _ _ _ _ hf H locs hP hD hS ls (lv_sub hl [1, 3, 4, 0] rfl)
set_option maxHeartbeats 4000000 in
set_option maxRecDepth 100000 in
theorem mX6_best (l : Launch) (D : va_G) (cI cZ : ClassId) (A : Nat → Nat)  (mm : St) (x1 : Int32) (x2 : Int32) (sz : Nat) (res : Int32) (hf : fX6_best mm x1 x2 = some res) : Met l yX6_best wsX6_best ({ frames := 2, cells := 0, slots := 0, locals := 51 }) (mP D (tysX cI cZ) [.ref (A 0), .int x1, .int x2] (wX6 cI cZ A mm) sz) (mQi D res (wX6 cI cZ A mm) (wX6 cI cZ A mm) sz) 0 0 (va_A (wX6 cI cZ A mm) sz) := by
  refine mkM_i (cc := cX6_best) (maxL := 6) (own := RX6) (by decide +kernel) rfl rfl (Nat.le_of_ble_eq_true rfl) ?_
  intro p e s m args below meth c A0 Q S hK hG hA hR
  obtain ⟨hx, hb, hml, hown, hts⟩ := id S
  have k69 := hts (.fieldLink RX6 69 "SwitchFloorModel" "cameRoot" "[I") (by decide +kernel)
  have iX6 : ∀ w ∈ wsX60, w ∈ wsX6_best := by decide +kernel
  have k75 := hts (.fieldLink RX6 75 "SwitchFloorModel" "cameHops" "[I") (by decide +kernel)
  have k26 := hts (.fieldLink RX6 26 "SwitchFloorModel" "guard" "[I") (by decide +kernel)
  have k78 := hts (.fieldLink RX6 78 "SwitchFloorModel" "counts" "[Z") (by decide +kernel)
  have B73 : ∀ (x1 : Int32) (x2 : Int32) (x3 : Int32) (x4 : Int32) (y0 : Int32) (k7 : (Int32 × Int32) → Option (Int32)) (hk7 : ∀ a7, k7 a7 = some res → Bk p l e ({ frames := 2, cells := 0, slots := 0, locals := 51 }) s m args below meth c Q A0 D 6 0 0 (wX6 cI cZ A mm) [(0, .ref (A 0)), (1, .int x1), (2, .int x2), (3, .int (a7.1)), (4, .int (a7.2))] 7 []), fX6_best_J73 k7 mm x1 x2 x3 x4 y0 = some res → Bk p l e ({ frames := 2, cells := 0, slots := 0, locals := 51 }) s m args below meth c Q A0 D 6 0 0 (wX6 cI cZ A mm) [(0, .ref (A 0)), (1, .int x1), (2, .int x2), (3, .int x3), (4, .int x4)] 73 [.int y0] := by
    intro x1 x2 x3 x4 y0 k7 hk7 hf
    unfold fX6_best_J73 at hf
    intro H locs hP hD hS ls hl
    refine lv_istore (lv' := [(5, .int y0), (0, .ref (A 0)), (1, .int x1), (2, .int x2), (3, .int x3), (4, .int x4)]) hx hb dX6_best_73 hl (by decide) rfl (fun ls hl => ?_)
    refine lv_iload hx hb dX6_best_75 (lv_at hl 0 rfl) ?_
    refine lv_if_eq (tgt := 96) hx hb dX6_best_77 (by decide) (fun c77 => ?_) (fun c77 => ?_)
    · have hf := if_t c77 hf
      refine lv_iload_n hx hb dX6_best_96 rfl (lv_at hl 4 rfl) ?_
      refine lv_istore_n (lv' := [(3, .int x3), (5, .int y0), (0, .ref (A 0)), (1, .int x1), (2, .int x2), (4, .int x4)]) hx hb dX6_best_97 rfl hl (by decide) rfl (fun ls hl => ?_)
      refine lv_iinc (v := x4 + 1) (lv' := [(4, .int (x4 + 1)), (3, .int x3), (5, .int y0), (0, .ref (A 0)), (1, .int x1), (2, .int x2)]) hx hb dX6_best_98 hl (k := 5) rfl rfl (by decide) rfl (fun ls hl => ?_)
      refine lv_goto (tgt := 7) hx hb dX6_best_101 (by decide) ?_
      exact hk7 _ hf H locs hP hD hS ls (lv_sub hl [3, 4, 5, 1, 0] rfl)
    · have hf := if_f c77 hf
      refine lv_aload_n hx hb dX6_best_80 rfl (lv_at hl 1 rfl) ?_
      refine lv_iload_n hx hb dX6_best_81 rfl (lv_at hl 2 rfl) ?_
      refine lv_iload hx hb dX6_best_82 (lv_at hl 5 rfl) ?_
      refine lv_iload_n hx hb dX6_best_84 rfl (lv_at hl 4 rfl) ?_
      obtain ⟨q85, h85, hf⟩ := bd_t hf
      refine cl_i (va_runV (As := [.int x1, .int x4, .int x3]) (rest := []) S (mX6_isBetterBy l D cI cZ A mm x1 x4 x3 H.size q85 h85) (cwV 3 hts gX6_best_X6_isBetterBy rfl rfl rfl (by decide +kernel) ⟨Nat.le_of_ble_eq_true rfl, Nat.le_of_ble_eq_true rfl⟩) (mP_V (ci := 6) (Cut.self _ []) hP hD hK hG rfl (gX6_0 _ _ _ _)) rfl rfl hl.1 rfl (lv_room (Nat.le_of_ble_eq_true rfl)) dX6_best_85 ⟨Nat.le_refl _, Nat.le_refl _⟩) (Cut.self _ _) hP hD hS hA (fun H locs hP hD hS => ?_)
      refine lv_if_eq (tgt := 96) hx hb dX6_best_88 (by decide) (fun c88 => ?_) (fun c88 => ?_)
      · have hf := if_t c88 hf
        refine lv_iload_n hx hb dX6_best_96 rfl (lv_at hl 4 rfl) ?_
        refine lv_istore_n (lv' := [(3, .int x3), (5, .int y0), (0, .ref (A 0)), (1, .int x1), (2, .int x2), (4, .int x4)]) hx hb dX6_best_97 rfl hl (by decide) rfl (fun ls hl => ?_)
        refine lv_iinc (v := x4 + 1) (lv' := [(4, .int (x4 + 1)), (3, .int x3), (5, .int y0), (0, .ref (A 0)), (1, .int x1), (2, .int x2)]) hx hb dX6_best_98 hl (k := 5) rfl rfl (by decide) rfl (fun ls hl => ?_)
        refine lv_goto (tgt := 7) hx hb dX6_best_101 (by decide) ?_
        exact hk7 _ hf H locs hP hD hS ls (lv_sub hl [3, 4, 5, 1, 0] rfl)
      · have hf := if_f c88 hf
        refine lv_iload hx hb dX6_best_91 (lv_at hl 5 rfl) ?_
        refine lv_goto (tgt := 97) hx hb dX6_best_93 (by decide) ?_
        refine lv_istore_n (lv' := [(3, .int x4), (5, .int y0), (0, .ref (A 0)), (1, .int x1), (2, .int x2), (4, .int x4)]) hx hb dX6_best_97 rfl hl (by decide) rfl (fun ls hl => ?_)
        refine lv_iinc (v := x4 + 1) (lv' := [(4, .int (x4 + 1)), (3, .int x4), (5, .int y0), (0, .ref (A 0)), (1, .int x1), (2, .int x2)]) hx hb dX6_best_98 hl (k := 5) rfl rfl (by decide) rfl (fun ls hl => ?_)
        refine lv_goto (tgt := 7) hx hb dX6_best_101 (by decide) ?_
        exact hk7 _ hf H locs hP hD hS ls (lv_sub hl [3, 4, 5, 1, 0] rfl)
  have B72 : ∀ (x1 : Int32) (x2 : Int32) (x3 : Int32) (x4 : Int32) (k7 : (Int32 × Int32) → Option (Int32)) (hk7 : ∀ a7, k7 a7 = some res → Bk p l e ({ frames := 2, cells := 0, slots := 0, locals := 51 }) s m args below meth c Q A0 D 6 0 0 (wX6 cI cZ A mm) [(0, .ref (A 0)), (1, .int x1), (2, .int x2), (3, .int (a7.1)), (4, .int (a7.2))] 7 []), fX6_best_J72 k7 mm x1 x2 x3 x4 = some res → Bk p l e ({ frames := 2, cells := 0, slots := 0, locals := 51 }) s m args below meth c Q A0 D 6 0 0 (wX6 cI cZ A mm) [(0, .ref (A 0)), (1, .int x1), (2, .int x2), (3, .int x3), (4, .int x4)] 72 [] := by
    intro x1 x2 x3 x4 k7 hk7 hf
    unfold fX6_best_J72 at hf
    intro H locs hP hD hS ls hl
    refine lv_iconst (v := 0) hx hb dX6_best_72 (by decide) ?_
    exact B73 _ _ _ _ _ k7 hk7 hf H locs hP hD hS ls (lv_sub hl [0, 1, 2, 3, 4] rfl)
  have B7 : ∀ (x1 : Int32) (x2 : Int32) (x3 : Int32) (x4 : Int32), fX6_best_L7 mm x1 x2 x3 x4 = some res → Bk p l e ({ frames := 2, cells := 0, slots := 0, locals := 51 }) s m args below meth c Q A0 D 6 0 0 (wX6 cI cZ A mm) [(0, .ref (A 0)), (1, .int x1), (2, .int x2), (3, .int x3), (4, .int x4)] 7 [] := by
    intro x1 x2 x3 x4 hf
    refine loop_ind (step := (fun k a => fX6_best_S7 k mm x1 x2 (a.1) (a.2))) (fun a => Bk p l e ({ frames := 2, cells := 0, slots := 0, locals := 51 }) s m args below meth c Q A0 D 6 0 0 (wX6 cI cZ A mm) [(0, .ref (A 0)), (1, .int x1), (2, .int x2), (3, .int (a.1)), (4, .int (a.2))] 7 []) ?_ _ _ hf
    clear hf
    intro k7 hk7 a hf
    obtain ⟨x3_, x4_⟩ := a
    clear x3 x4
    obtain ⟨x3, e_⟩ : ∃ z, z = x3_ := ⟨_, rfl⟩
    subst e_
    obtain ⟨x4, e_⟩ : ∃ z, z = x4_ := ⟨_, rfl⟩
    subst e_
    have hf : fX6_best_S7 k7 mm x1 x2 x3 x4 = some res := hf
    show Bk p l e ({ frames := 2, cells := 0, slots := 0, locals := 51 }) s m args below meth c Q A0 D 6 0 0 (wX6 cI cZ A mm) [(0, .ref (A 0)), (1, .int x1), (2, .int x2), (3, .int x3), (4, .int x4)] 7 []
    unfold fX6_best_S7 at hf
    intro H locs hP hD hS ls hl
    refine lv_iload hx hb dX6_best_7 (lv_at hl 4 rfl) ?_
    refine lv_iconst (v := 5) hx hb dX6_best_9 (by decide) ?_
    refine lv_iload_n hx hb dX6_best_10 rfl (lv_at hl 1 rfl) ?_
    refine lv_imul hx hb dX6_best_11 ?_
    refine lv_iconst (v := 5) hx hb dX6_best_12 (by decide) ?_
    refine lv_iadd hx hb dX6_best_13 ?_
    refine lv_icmp_ge (tgt := 104) hx hb dX6_best_14 (by decide) (fun c14 => ?_) (fun c14 => ?_)
    · have hf := if_t c14 hf
      refine lv_iload_n hx hb dX6_best_104 rfl (lv_at hl 3 rfl) ?_
      exact hR _ ls H locs _ _ (congrArg (fun q => q) (Option.some.inj hf)) rfl rfl dX6_best_105 hP hD hS
    · have hf := if_f c14 hf
      refine lv_aload_n hx hb dX6_best_17 rfl (lv_at hl 0 rfl) ?_
      refine ld_f S iX6 hK hP 0 20 (.ref (A 19)) (gX6_0 _ _ _ _) rfl (by decide) k69 rfl rfl dX6_best_18 ?_
      refine lv_iload hx hb dX6_best_21 (lv_at hl 4 rfl) ?_
      obtain ⟨c23, hf⟩ := ck_t hf
      refine va_iald (f := mm 20) hx hb hK hP 19 0 (gX6_19 _ _ _ _) rfl (inb_in c23) dX6_best_23 ?_
      refine lv_iconst (v := (-1)) hx hb dX6_best_24 (by decide) ?_
      refine lv_icmp_eq (tgt := 72) hx hb dX6_best_25 (by decide) (fun c25 => ?_) (fun c25 => ?_)
      · have hf := if_t c25 hf
        exact B72 _ _ _ _ k7 hk7 hf H locs hP hD hS ls (lv_sub hl [0, 1, 2, 3, 4] rfl)
      · have hf := if_f c25 hf
        refine lv_aload_n hx hb dX6_best_28 rfl (lv_at hl 0 rfl) ?_
        refine ld_f S iX6 hK hP 0 22 (.ref (A 21)) (gX6_0 _ _ _ _) rfl (by decide) k75 rfl rfl dX6_best_29 ?_
        refine lv_iload hx hb dX6_best_32 (lv_at hl 4 rfl) ?_
        obtain ⟨c34, hf⟩ := ck_t hf
        refine va_iald (f := mm 22) hx hb hK hP 21 0 (gX6_21 _ _ _ _) rfl (inb_in c34) dX6_best_34 ?_
        refine lv_bipush (v := 7) hx hb dX6_best_35 (by decide) ?_
        refine lv_icmp_ge (tgt := 72) hx hb dX6_best_37 (by decide) (fun c37 => ?_) (fun c37 => ?_)
        · have hf := if_t c37 hf
          exact B72 _ _ _ _ k7 hk7 hf H locs hP hD hS ls (lv_sub hl [0, 1, 2, 3, 4] rfl)
        · have hf := if_f c37 hf
          refine lv_iload_n hx hb dX6_best_40 rfl (lv_at hl 2 rfl) ?_
          refine lv_if_eq (tgt := 57) hx hb dX6_best_41 (by decide) (fun c41 => ?_) (fun c41 => ?_)
          · have hf := if_t c41 hf
            refine lv_aload_n hx hb dX6_best_57 rfl (lv_at hl 0 rfl) ?_
            refine ld_f S iX6 hK hP 0 6 (.ref (A 5)) (gX6_0 _ _ _ _) rfl (by decide) k26 rfl rfl dX6_best_58 ?_
            refine lv_iload hx hb dX6_best_61 (lv_at hl 4 rfl) ?_
            obtain ⟨c63, hf⟩ := ck_t hf
            refine va_iald (f := mm 6) hx hb hK hP 5 0 (gX6_5 _ _ _ _) rfl (inb_in c63) dX6_best_63 ?_
            refine lv_iconst (v := 1) hx hb dX6_best_64 (by decide) ?_
            refine lv_icmp_eq (tgt := 72) hx hb dX6_best_65 (by decide) (fun c65 => ?_) (fun c65 => ?_)
            · have hf := if_t c65 hf
              exact B72 _ _ _ _ k7 hk7 hf H locs hP hD hS ls (lv_sub hl [0, 1, 2, 3, 4] rfl)
            · have hf := if_f c65 hf
              refine lv_iconst (v := 1) hx hb dX6_best_68 (by decide) ?_
              refine lv_goto (tgt := 73) hx hb dX6_best_69 (by decide) ?_
              exact B73 _ _ _ _ _ k7 hk7 hf H locs hP hD hS ls (lv_sub hl [0, 1, 2, 3, 4] rfl)
          · have hf := if_f c41 hf
            refine lv_aload_n hx hb dX6_best_44 rfl (lv_at hl 0 rfl) ?_
            refine ld_f S iX6 hK hP 0 23 (.ref (A 22)) (gX6_0 _ _ _ _) rfl (by decide) k78 rfl rfl dX6_best_45 ?_
            refine lv_iload hx hb dX6_best_48 (lv_at hl 4 rfl) ?_
            obtain ⟨c50, hf⟩ := ck_t hf
            refine va_zald (f := mm 23) hx hb hK hP 22 1 (gX6_22 _ _ _ _) rfl (inb_in c50) dX6_best_50 ?_
            refine lv_if_eq (tgt := 72) hx hb dX6_best_51 (by decide) (fun c51 => ?_) (fun c51 => ?_)
            · have hf := if_t c51 hf
              exact B72 _ _ _ _ k7 hk7 hf H locs hP hD hS ls (lv_sub hl [0, 1, 2, 3, 4] rfl)
            · have hf := if_f c51 hf
              refine lv_goto (tgt := 68) hx hb dX6_best_54 (by decide) ?_
              refine lv_iconst (v := 1) hx hb dX6_best_68 (by decide) ?_
              refine lv_goto (tgt := 73) hx hb dX6_best_69 (by decide) ?_
              exact B73 _ _ _ _ _ k7 hk7 hf H locs hP hD hS ls (lv_sub hl [0, 1, 2, 3, 4] rfl)
  intro H locs hP hD hS ls hl
  have hl : lv_has ls 6 [(0, .ref (A 0)), (1, .int x1), (2, .int x2)] := hl
  unfold fX6_best at hf
  refine lv_iconst (v := (-1)) hx hb dX6_best_0 (by decide) ?_
  refine lv_istore_n (lv' := [(3, .int (-1)), (0, .ref (A 0)), (1, .int x1), (2, .int x2)]) hx hb dX6_best_1 rfl hl (by decide) rfl (fun ls hl => ?_)
  refine lv_iconst (v := 5) hx hb dX6_best_2 (by decide) ?_
  refine lv_iload_n hx hb dX6_best_3 rfl (lv_at hl 2 rfl) ?_
  refine lv_imul hx hb dX6_best_4 ?_
  refine lv_istore (lv' := [(4, .int (5 * x1)), (3, .int (-1)), (0, .ref (A 0)), (1, .int x1), (2, .int x2)]) hx hb dX6_best_5 hl (by decide) rfl (fun ls hl => ?_)
  exact B7 _ _ _ _ hf H locs hP hD hS ls (lv_sub hl [2, 3, 4, 1, 0] rfl)
set_option maxHeartbeats 4000000 in
set_option maxRecDepth 100000 in
theorem mX6_holds (l : Launch) (D : va_G) (cI cZ : ClassId) (A : Nat → Nat)  (mm : St) (x1 : Int32) (sz : Nat) (res : St) (hf : fX6_holds mm x1 = some res) : Met l yX6_holds wsX6_holds ({ frames := 3, cells := 0, slots := 0, locals := 76 }) (mP D (tysX cI cZ) [.ref (A 0), .int x1] (wX6 cI cZ A mm) sz) (mQv D (wX6 cI cZ A mm) (wX6 cI cZ A res) sz) 0 0 (va_A (wX6 cI cZ A mm) sz) := by
  refine mkM_v (cc := cX6_holds) (maxL := 5) (own := RX6) (by decide +kernel) rfl rfl (Nat.le_of_ble_eq_true rfl) ?_
  intro p e s m args below meth c A0 Q S hK hG hA hR
  obtain ⟨hx, hb, hml, hown, hts⟩ := id S
  have k69 := hts (.fieldLink RX6 69 "SwitchFloorModel" "cameRoot" "[I") (by decide +kernel)
  have iX6 : ∀ w ∈ wsX60, w ∈ wsX6_holds := by decide +kernel
  have k66 := hts (.fieldLink RX6 66 "SwitchFloorModel" "rootPort" "[I") (by decide +kernel)
  have k57 := hts (.fieldLink RX6 57 "SwitchFloorModel" "root" "[I") (by decide +kernel)
  have k60 := hts (.fieldLink RX6 60 "SwitchFloorModel" "far" "[I") (by decide +kernel)
  have k72 := hts (.fieldLink RX6 72 "SwitchFloorModel" "cameCost" "[I") (by decide +kernel)
  have k20 := hts (.fieldLink RX6 20 "SwitchFloorModel" "cost" "[I") (by decide +kernel)
  have k63 := hts (.fieldLink RX6 63 "SwitchFloorModel" "hops" "[I") (by decide +kernel)
  have k75 := hts (.fieldLink RX6 75 "SwitchFloorModel" "cameHops" "[I") (by decide +kernel)
  have k78 := hts (.fieldLink RX6 78 "SwitchFloorModel" "counts" "[Z") (by decide +kernel)
  have k26 := hts (.fieldLink RX6 26 "SwitchFloorModel" "guard" "[I") (by decide +kernel)
  have B187 : ∀ (mm : St) (y0 : Int32) (y1 : Int32), fX6_holds_J187 mm y0 y1 = some res → Bk p l e ({ frames := 3, cells := 0, slots := 0, locals := 76 }) s m args below meth c Q A0 D 5 0 0 (wX6 cI cZ A mm) [] 187 [.int y0, .int y1, .ref (A 17)] := by
    intro mm y0 y1 hf
    unfold fX6_holds_J187 at hf
    intro H locs hP hD hS ls hl
    obtain ⟨c187, hf⟩ := ck_t hf
    refine st_i hx hb hK hP hD hS 17 0 (sX6_17 _ _ _ _ _ _) (gX6_17 _ _ _ _) rfl c187 dX6_holds_187 (fun H locs hP hD hS => ?_)
    exact hR _ ls H locs _ (congrArg (fun q => (wX6 cI cZ A q)) (Option.some.inj hf)) dX6_holds_188 hP hD hS
  have B162 : ∀ (mm : St) (x1 : Int32) (x4 : Int32) (y0 : Int32) (y1 : Int32), fX6_holds_J162 mm x1 x4 y0 y1 = some res → Bk p l e ({ frames := 3, cells := 0, slots := 0, locals := 76 }) s m args below meth c Q A0 D 5 0 0 (wX6 cI cZ A mm) [(0, .ref (A 0)), (1, .int x1), (4, .int x4)] 162 [.int y0, .int y1, .ref (A 16)] := by
    intro mm x1 x4 y0 y1 hf
    unfold fX6_holds_J162 at hf
    intro H locs hP hD hS ls hl
    obtain ⟨c162, hf⟩ := ck_t hf
    refine st_i hx hb hK hP hD hS 16 0 (sX6_16 _ _ _ _ _ _) (gX6_16 _ _ _ _) rfl c162 dX6_holds_162 (fun H locs hP hD hS => ?_)
    refine lv_aload_n hx hb dX6_holds_163 rfl (lv_at hl 0 rfl) ?_
    refine ld_f S iX6 hK hP 0 18 (.ref (A 17)) (gX6_0 _ _ _ _) rfl (by decide) k63 rfl rfl dX6_holds_164 ?_
    refine lv_iload_n hx hb dX6_holds_167 rfl (lv_at hl 1 rfl) ?_
    refine lv_iload hx hb dX6_holds_168 (lv_at hl 2 rfl) ?_
    refine lv_iconst (v := (-1)) hx hb dX6_holds_170 (by decide) ?_
    refine lv_icmp_ne (tgt := 178) hx hb dX6_holds_171 (by decide) (fun c171 => ?_) (fun c171 => ?_)
    · have hf := if_f c171 hf
      refine lv_aload_n hx hb dX6_holds_178 rfl (lv_at hl 0 rfl) ?_
      refine ld_f S iX6 hK hP 0 22 (.ref (A 21)) (gX6_0 _ _ _ _) rfl (by decide) k75 rfl rfl dX6_holds_179 ?_
      refine lv_iload hx hb dX6_holds_182 (lv_at hl 2 rfl) ?_
      obtain ⟨c184, hf⟩ := ck_t hf
      refine va_iald (f := mm 22) hx hb hK hP 21 0 (gX6_21 _ _ _ _) rfl (inb_in c184) dX6_holds_184 ?_
      refine lv_iconst (v := 1) hx hb dX6_holds_185 (by decide) ?_
      refine lv_iadd hx hb dX6_holds_186 ?_
      exact B187 _ _ _ hf H locs hP hD hS ls (lv_sub hl [] rfl)
    · have hf := if_t c171 hf
      refine lv_iconst (v := 0) hx hb dX6_holds_174 (by decide) ?_
      refine lv_goto (tgt := 187) hx hb dX6_holds_175 (by decide) ?_
      exact B187 _ _ _ hf H locs hP hD hS ls (lv_sub hl [] rfl)
  have B131 : ∀ (mm : St) (x1 : Int32) (x4 : Int32) (y0 : Int32) (y1 : Int32), fX6_holds_J131 mm x1 x4 y0 y1 = some res → Bk p l e ({ frames := 3, cells := 0, slots := 0, locals := 76 }) s m args below meth c Q A0 D 5 0 0 (wX6 cI cZ A mm) [(0, .ref (A 0)), (1, .int x1), (4, .int x4)] 131 [.int y0, .int y1, .ref (A 15)] := by
    intro mm x1 x4 y0 y1 hf
    unfold fX6_holds_J131 at hf
    intro H locs hP hD hS ls hl
    obtain ⟨c131, hf⟩ := ck_t hf
    refine st_i hx hb hK hP hD hS 15 0 (sX6_15 _ _ _ _ _ _) (gX6_15 _ _ _ _) rfl c131 dX6_holds_131 (fun H locs hP hD hS => ?_)
    refine lv_aload_n hx hb dX6_holds_132 rfl (lv_at hl 0 rfl) ?_
    refine ld_f S iX6 hK hP 0 17 (.ref (A 16)) (gX6_0 _ _ _ _) rfl (by decide) k60 rfl rfl dX6_holds_133 ?_
    refine lv_iload_n hx hb dX6_holds_136 rfl (lv_at hl 1 rfl) ?_
    refine lv_iload hx hb dX6_holds_137 (lv_at hl 2 rfl) ?_
    refine lv_iconst (v := (-1)) hx hb dX6_holds_139 (by decide) ?_
    refine lv_icmp_ne (tgt := 147) hx hb dX6_holds_140 (by decide) (fun c140 => ?_) (fun c140 => ?_)
    · have hf := if_f c140 hf
      refine lv_aload_n hx hb dX6_holds_147 rfl (lv_at hl 0 rfl) ?_
      refine ld_f S iX6 hK hP 0 21 (.ref (A 20)) (gX6_0 _ _ _ _) rfl (by decide) k72 rfl rfl dX6_holds_148 ?_
      refine lv_iload hx hb dX6_holds_151 (lv_at hl 2 rfl) ?_
      obtain ⟨c153, hf⟩ := ck_t hf
      refine va_iald (f := mm 21) hx hb hK hP 20 0 (gX6_20 _ _ _ _) rfl (inb_in c153) dX6_holds_153 ?_
      refine lv_aload_n hx hb dX6_holds_154 rfl (lv_at hl 0 rfl) ?_
      refine ld_f S iX6 hK hP 0 4 (.ref (A 3)) (gX6_0 _ _ _ _) rfl (by decide) k20 rfl rfl dX6_holds_155 ?_
      refine lv_iload hx hb dX6_holds_158 (lv_at hl 2 rfl) ?_
      obtain ⟨c160, hf⟩ := ck_t hf
      refine va_iald (f := mm 4) hx hb hK hP 3 0 (gX6_3 _ _ _ _) rfl (inb_in c160) dX6_holds_160 ?_
      refine lv_iadd hx hb dX6_holds_161 ?_
      exact B162 _ _ _ _ _ hf H locs hP hD hS ls (lv_sub hl [0, 1, 2] rfl)
    · have hf := if_t c140 hf
      refine lv_iconst (v := 0) hx hb dX6_holds_143 (by decide) ?_
      refine lv_goto (tgt := 162) hx hb dX6_holds_144 (by decide) ?_
      exact B162 _ _ _ _ _ hf H locs hP hD hS ls (lv_sub hl [0, 1, 2] rfl)
  have B93 : ∀ (mm : St) (x1 : Int32), fX6_holds_J93 mm x1 = some res → Bk p l e ({ frames := 3, cells := 0, slots := 0, locals := 76 }) s m args below meth c Q A0 D 5 0 0 (wX6 cI cZ A mm) [(0, .ref (A 0)), (1, .int x1)] 93 [] := by
    intro mm x1 hf
    unfold fX6_holds_J93 at hf
    intro H locs hP hD hS ls hl
    refine lv_aload_n hx hb dX6_holds_93 rfl (lv_at hl 0 rfl) ?_
    refine lv_iload_n hx hb dX6_holds_94 rfl (lv_at hl 1 rfl) ?_
    refine lv_iconst (v := 1) hx hb dX6_holds_95 (by decide) ?_
    obtain ⟨q96, h96, hf⟩ := bd_t hf
    refine cl_i (va_runV (As := [.int x1, .int 1]) (rest := []) S (mX6_best l D cI cZ A mm x1 1 H.size q96 h96) (cwV 2 hts gX6_holds_X6_best rfl rfl rfl (by decide +kernel) ⟨Nat.le_of_ble_eq_true rfl, Nat.le_of_ble_eq_true rfl⟩) (mP_V (ci := 6) (Cut.self _ []) hP hD hK hG rfl (gX6_0 _ _ _ _)) rfl rfl hl.1 rfl (lv_room (Nat.le_of_ble_eq_true rfl)) dX6_holds_96 ⟨Nat.le_refl _, Nat.le_refl _⟩) (Cut.self _ _) hP hD hS hA (fun H locs hP hD hS => ?_)
    refine lv_istore (lv' := [(4, .int q96), (0, .ref (A 0)), (1, .int x1)]) hx hb dX6_holds_99 hl (by decide) rfl (fun ls hl => ?_)
    refine lv_aload_n hx hb dX6_holds_101 rfl (lv_at hl 1 rfl) ?_
    refine ld_f S iX6 hK hP 0 19 (.ref (A 18)) (gX6_0 _ _ _ _) rfl (by decide) k66 rfl rfl dX6_holds_102 ?_
    refine lv_iload_n hx hb dX6_holds_105 rfl (lv_at hl 2 rfl) ?_
    refine lv_iload hx hb dX6_holds_106 (lv_at hl 0 rfl) ?_
    obtain ⟨c108, hf⟩ := ck_t hf
    refine st_i hx hb hK hP hD hS 18 0 (sX6_18 _ _ _ _ _ _) (gX6_18 _ _ _ _) rfl c108 dX6_holds_108 (fun H locs hP hD hS => ?_)
    refine lv_aload_n hx hb dX6_holds_109 rfl (lv_at hl 1 rfl) ?_
    refine ld_f S iX6 hK hP 0 16 (.ref (A 15)) (gX6_0 _ _ _ _) rfl (by decide) k57 rfl rfl dX6_holds_110 ?_
    refine lv_iload_n hx hb dX6_holds_113 rfl (lv_at hl 2 rfl) ?_
    refine lv_iload hx hb dX6_holds_114 (lv_at hl 0 rfl) ?_
    refine lv_iconst (v := (-1)) hx hb dX6_holds_116 (by decide) ?_
    refine lv_icmp_ne (tgt := 124) hx hb dX6_holds_117 (by decide) (fun c117 => ?_) (fun c117 => ?_)
    · have hf := if_f c117 hf
      refine lv_aload_n hx hb dX6_holds_124 rfl (lv_at hl 1 rfl) ?_
      refine ld_f S iX6 hK hP 0 20 (.ref (A 19)) (gX6_0 _ _ _ _) rfl (by decide) k69 rfl rfl dX6_holds_125 ?_
      refine lv_iload hx hb dX6_holds_128 (lv_at hl 0 rfl) ?_
      obtain ⟨c130, hf⟩ := ck_t hf
      refine va_iald (f := mm 20) hx hb hK hP 19 0 (gX6_19 _ _ _ _) rfl (inb_in c130) dX6_holds_130 ?_
      exact B131 _ _ _ _ _ hf H locs hP hD hS ls (lv_sub hl [1, 2, 0] rfl)
    · have hf := if_t c117 hf
      refine lv_iload_n hx hb dX6_holds_120 rfl (lv_at hl 2 rfl) ?_
      refine lv_goto (tgt := 131) hx hb dX6_holds_121 (by decide) ?_
      exact B131 _ _ _ _ _ hf H locs hP hD hS ls (lv_sub hl [1, 2, 0] rfl)
  have B86 : ∀ (mm : St) (x1 : Int32) (x3 : Int32) (x4 : Int32) (y0 : Int32) (y1 : Int32) (k28 : (St × Int32) → Option (St)) (hk28 : ∀ a28, k28 a28 = some res → Bk p l e ({ frames := 3, cells := 0, slots := 0, locals := 76 }) s m args below meth c Q A0 D 5 0 0 (wX6 cI cZ A (a28.1)) [(0, .ref (A 0)), (1, .int x1), (3, .int x3), (4, .int (a28.2))] 28 []), fX6_holds_J86 k28 mm x1 x3 x4 y0 y1 = some res → Bk p l e ({ frames := 3, cells := 0, slots := 0, locals := 76 }) s m args below meth c Q A0 D 5 0 0 (wX6 cI cZ A mm) [(0, .ref (A 0)), (1, .int x1), (3, .int x3), (4, .int x4)] 86 [.int y0, .int y1, .ref (A 22)] := by
    intro mm x1 x3 x4 y0 y1 k28 hk28 hf
    unfold fX6_holds_J86 at hf
    intro H locs hP hD hS ls hl
    obtain ⟨c86, hf⟩ := ck_t hf
    refine st_z hx hb hK hP hD hS 22 1 (sX6_22 _ _ _ _ _ _) (gX6_22 _ _ _ _) rfl c86 dX6_holds_86 (fun H locs hP hD hS => ?_)
    refine lv_iinc (v := x4 + 1) (lv' := [(4, .int (x4 + 1)), (0, .ref (A 0)), (1, .int x1), (3, .int x3)]) hx hb dX6_holds_87 hl (k := 3) rfl rfl (by decide) rfl (fun ls hl => ?_)
    refine lv_goto (tgt := 28) hx hb dX6_holds_90 (by decide) ?_
    exact hk28 _ hf H locs hP hD hS ls (lv_sub hl [1, 2, 3, 0] rfl)
  have B85 : ∀ (mm : St) (x1 : Int32) (x3 : Int32) (x4 : Int32) (y0 : Int32) (k28 : (St × Int32) → Option (St)) (hk28 : ∀ a28, k28 a28 = some res → Bk p l e ({ frames := 3, cells := 0, slots := 0, locals := 76 }) s m args below meth c Q A0 D 5 0 0 (wX6 cI cZ A (a28.1)) [(0, .ref (A 0)), (1, .int x1), (3, .int x3), (4, .int (a28.2))] 28 []), fX6_holds_J85 k28 mm x1 x3 x4 y0 = some res → Bk p l e ({ frames := 3, cells := 0, slots := 0, locals := 76 }) s m args below meth c Q A0 D 5 0 0 (wX6 cI cZ A mm) [(0, .ref (A 0)), (1, .int x1), (3, .int x3), (4, .int x4)] 85 [.int y0, .ref (A 22)] := by
    intro mm x1 x3 x4 y0 k28 hk28 hf
    unfold fX6_holds_J85 at hf
    intro H locs hP hD hS ls hl
    refine lv_iconst (v := 0) hx hb dX6_holds_85 (by decide) ?_
    exact B86 _ _ _ _ _ _ k28 hk28 hf H locs hP hD hS ls (lv_sub hl [0, 1, 2, 3] rfl)
  have B28 : ∀ (x1 : Int32) (x3 : Int32) (mm : St) (x4 : Int32), fX6_holds_L28 x1 x3 mm x4 = some res → Bk p l e ({ frames := 3, cells := 0, slots := 0, locals := 76 }) s m args below meth c Q A0 D 5 0 0 (wX6 cI cZ A mm) [(0, .ref (A 0)), (1, .int x1), (3, .int x3), (4, .int x4)] 28 [] := by
    intro x1 x3 mm x4 hf
    refine loop_ind (step := (fun k a => fX6_holds_S28 k x1 x3 (a.1) (a.2))) (fun a => Bk p l e ({ frames := 3, cells := 0, slots := 0, locals := 76 }) s m args below meth c Q A0 D 5 0 0 (wX6 cI cZ A (a.1)) [(0, .ref (A 0)), (1, .int x1), (3, .int x3), (4, .int (a.2))] 28 []) ?_ _ _ hf
    clear hf
    intro k28 hk28 a hf
    obtain ⟨mm_, x4_⟩ := a
    clear mm x4
    obtain ⟨mm, e_⟩ : ∃ z, z = mm_ := ⟨_, rfl⟩
    subst e_
    obtain ⟨x4, e_⟩ : ∃ z, z = x4_ := ⟨_, rfl⟩
    subst e_
    have hf : fX6_holds_S28 k28 x1 x3 mm x4 = some res := hf
    show Bk p l e ({ frames := 3, cells := 0, slots := 0, locals := 76 }) s m args below meth c Q A0 D 5 0 0 (wX6 cI cZ A mm) [(0, .ref (A 0)), (1, .int x1), (3, .int x3), (4, .int x4)] 28 []
    unfold fX6_holds_S28 at hf
    intro H locs hP hD hS ls hl
    refine lv_iload hx hb dX6_holds_28 (lv_at hl 3 rfl) ?_
    refine lv_iconst (v := 5) hx hb dX6_holds_30 (by decide) ?_
    refine lv_iload_n hx hb dX6_holds_31 rfl (lv_at hl 1 rfl) ?_
    refine lv_imul hx hb dX6_holds_32 ?_
    refine lv_iconst (v := 5) hx hb dX6_holds_33 (by decide) ?_
    refine lv_iadd hx hb dX6_holds_34 ?_
    refine lv_icmp_ge (tgt := 93) hx hb dX6_holds_35 (by decide) (fun c35 => ?_) (fun c35 => ?_)
    · have hf := if_t c35 hf
      exact B93 _ _ hf H locs hP hD hS ls (lv_sub hl [0, 1] rfl)
    · have hf := if_f c35 hf
      refine lv_aload_n hx hb dX6_holds_38 rfl (lv_at hl 0 rfl) ?_
      refine ld_f S iX6 hK hP 0 23 (.ref (A 22)) (gX6_0 _ _ _ _) rfl (by decide) k78 rfl rfl dX6_holds_39 ?_
      refine lv_iload hx hb dX6_holds_42 (lv_at hl 3 rfl) ?_
      refine lv_aload_n hx hb dX6_holds_44 rfl (lv_at hl 0 rfl) ?_
      refine ld_f S iX6 hK hP 0 20 (.ref (A 19)) (gX6_0 _ _ _ _) rfl (by decide) k69 rfl rfl dX6_holds_45 ?_
      refine lv_iload hx hb dX6_holds_48 (lv_at hl 3 rfl) ?_
      obtain ⟨c50, hf⟩ := ck_t hf
      refine va_iald (f := mm 20) hx hb hK hP 19 0 (gX6_19 _ _ _ _) rfl (inb_in c50) dX6_holds_50 ?_
      refine lv_iconst (v := (-1)) hx hb dX6_holds_51 (by decide) ?_
      refine lv_icmp_eq (tgt := 85) hx hb dX6_holds_52 (by decide) (fun c52 => ?_) (fun c52 => ?_)
      · have hf := if_t c52 hf
        exact B85 _ _ _ _ _ k28 hk28 hf H locs hP hD hS ls (lv_sub hl [0, 1, 2, 3] rfl)
      · have hf := if_f c52 hf
        refine lv_aload_n hx hb dX6_holds_55 rfl (lv_at hl 0 rfl) ?_
        refine ld_f S iX6 hK hP 0 6 (.ref (A 5)) (gX6_0 _ _ _ _) rfl (by decide) k26 rfl rfl dX6_holds_56 ?_
        refine lv_iload hx hb dX6_holds_59 (lv_at hl 3 rfl) ?_
        obtain ⟨c61, hf⟩ := ck_t hf
        refine va_iald (f := mm 6) hx hb hK hP 5 0 (gX6_5 _ _ _ _) rfl (inb_in c61) dX6_holds_61 ?_
        refine lv_iconst (v := 1) hx hb dX6_holds_62 (by decide) ?_
        refine lv_icmp_ne (tgt := 81) hx hb dX6_holds_63 (by decide) (fun c63 => ?_) (fun c63 => ?_)
        · have hf := if_f c63 hf
          refine lv_iconst (v := 1) hx hb dX6_holds_81 (by decide) ?_
          refine lv_goto (tgt := 86) hx hb dX6_holds_82 (by decide) ?_
          exact B86 _ _ _ _ _ _ k28 hk28 hf H locs hP hD hS ls (lv_sub hl [0, 1, 2, 3] rfl)
        · have hf := if_t c63 hf
          refine lv_aload_n hx hb dX6_holds_66 rfl (lv_at hl 0 rfl) ?_
          refine lv_aload_n hx hb dX6_holds_67 rfl (lv_at hl 0 rfl) ?_
          refine ld_f S iX6 hK hP 0 20 (.ref (A 19)) (gX6_0 _ _ _ _) rfl (by decide) k69 rfl rfl dX6_holds_68 ?_
          refine lv_iload hx hb dX6_holds_71 (lv_at hl 3 rfl) ?_
          obtain ⟨c73, hf⟩ := ck_t hf
          refine va_iald (f := mm 20) hx hb hK hP 19 0 (gX6_19 _ _ _ _) rfl (inb_in c73) dX6_holds_73 ?_
          refine lv_iload_n hx hb dX6_holds_74 rfl (lv_at hl 2 rfl) ?_
          obtain ⟨q75, h75, hf⟩ := bd_t hf
          refine cl_i (va_runV (As := [.int (mm 20 x4.toNatClampNeg), .int x3]) (rest := [.int x4, .ref (A 22)]) S (mX6_isBetter l D cI cZ A mm (mm 20 x4.toNatClampNeg) x3 H.size q75 h75) (cwV 2 hts gX6_holds_X6_isBetter rfl rfl rfl (by decide +kernel) ⟨Nat.le_of_ble_eq_true rfl, Nat.le_of_ble_eq_true rfl⟩) (mP_V (ci := 6) (Cut.self _ []) hP hD hK hG rfl (gX6_0 _ _ _ _)) rfl rfl hl.1 rfl (lv_room (Nat.le_of_ble_eq_true rfl)) dX6_holds_75 ⟨Nat.le_refl _, Nat.le_refl _⟩) (Cut.self _ _) hP hD hS hA (fun H locs hP hD hS => ?_)
          refine lv_if_ne (tgt := 85) hx hb dX6_holds_78 (by decide) (fun c78 => ?_) (fun c78 => ?_)
          · have hf := if_f c78 hf
            exact B85 _ _ _ _ _ k28 hk28 hf H locs hP hD hS ls (lv_sub hl [0, 1, 2, 3] rfl)
          · have hf := if_t c78 hf
            refine lv_iconst (v := 1) hx hb dX6_holds_81 (by decide) ?_
            refine lv_goto (tgt := 86) hx hb dX6_holds_82 (by decide) ?_
            exact B86 _ _ _ _ _ _ k28 hk28 hf H locs hP hD hS ls (lv_sub hl [0, 1, 2, 3] rfl)
  have B22 : ∀ (mm : St) (x1 : Int32) (y0 : Int32), fX6_holds_J22 mm x1 y0 = some res → Bk p l e ({ frames := 3, cells := 0, slots := 0, locals := 76 }) s m args below meth c Q A0 D 5 0 0 (wX6 cI cZ A mm) [(0, .ref (A 0)), (1, .int x1)] 22 [.int y0] := by
    intro mm x1 y0 hf
    unfold fX6_holds_J22 at hf
    intro H locs hP hD hS ls hl
    refine lv_istore_n (lv' := [(3, .int y0), (0, .ref (A 0)), (1, .int x1)]) hx hb dX6_holds_22 rfl hl (by decide) rfl (fun ls hl => ?_)
    refine lv_iconst (v := 5) hx hb dX6_holds_23 (by decide) ?_
    refine lv_iload_n hx hb dX6_holds_24 rfl (lv_at hl 2 rfl) ?_
    refine lv_imul hx hb dX6_holds_25 ?_
    refine lv_istore (lv' := [(4, .int (5 * x1)), (3, .int y0), (0, .ref (A 0)), (1, .int x1)]) hx hb dX6_holds_26 hl (by decide) rfl (fun ls hl => ?_)
    exact B28 _ _ _ _ hf H locs hP hD hS ls (lv_sub hl [2, 3, 1, 0] rfl)
  intro H locs hP hD hS ls hl
  have hl : lv_has ls 5 [(0, .ref (A 0)), (1, .int x1)] := hl
  unfold fX6_holds at hf
  refine lv_aload_n hx hb dX6_holds_0 rfl (lv_at hl 0 rfl) ?_
  refine lv_iload_n hx hb dX6_holds_1 rfl (lv_at hl 1 rfl) ?_
  refine lv_iconst (v := 0) hx hb dX6_holds_2 (by decide) ?_
  obtain ⟨q3, h3, hf⟩ := bd_t hf
  refine cl_i (va_runV (As := [.int x1, .int 0]) (rest := []) S (mX6_best l D cI cZ A mm x1 0 H.size q3 h3) (cwV 2 hts gX6_holds_X6_best rfl rfl rfl (by decide +kernel) ⟨Nat.le_of_ble_eq_true rfl, Nat.le_of_ble_eq_true rfl⟩) (mP_V (ci := 6) (Cut.self _ []) hP hD hK hG rfl (gX6_0 _ _ _ _)) rfl rfl hl.1 rfl (lv_room (Nat.le_of_ble_eq_true rfl)) dX6_holds_3 ⟨Nat.le_refl _, Nat.le_refl _⟩) (Cut.self _ _) hP hD hS hA (fun H locs hP hD hS => ?_)
  refine lv_istore_n (lv' := [(2, .int q3), (0, .ref (A 0)), (1, .int x1)]) hx hb dX6_holds_6 rfl hl (by decide) rfl (fun ls hl => ?_)
  refine lv_iload_n hx hb dX6_holds_7 rfl (lv_at hl 0 rfl) ?_
  refine lv_iconst (v := (-1)) hx hb dX6_holds_8 (by decide) ?_
  refine lv_icmp_ne (tgt := 16) hx hb dX6_holds_9 (by decide) (fun c9 => ?_) (fun c9 => ?_)
  · have hf := if_f c9 hf
    refine lv_aload_n hx hb dX6_holds_16 rfl (lv_at hl 1 rfl) ?_
    refine ld_f S iX6 hK hP 0 20 (.ref (A 19)) (gX6_0 _ _ _ _) rfl (by decide) k69 rfl rfl dX6_holds_17 ?_
    refine lv_iload_n hx hb dX6_holds_20 rfl (lv_at hl 0 rfl) ?_
    obtain ⟨c21, hf⟩ := ck_t hf
    refine va_iald (f := mm 20) hx hb hK hP 19 0 (gX6_19 _ _ _ _) rfl (inb_in c21) dX6_holds_21 ?_
    exact B22 _ _ _ hf H locs hP hD hS ls (lv_sub hl [1, 2] rfl)
  · have hf := if_t c9 hf
    refine lv_iload_n hx hb dX6_holds_12 rfl (lv_at hl 2 rfl) ?_
    refine lv_goto (tgt := 22) hx hb dX6_holds_13 (by decide) ?_
    exact B22 _ _ _ hf H locs hP hD hS ls (lv_sub hl [1, 2] rfl)
set_option maxHeartbeats 4000000 in
set_option maxRecDepth 100000 in
theorem mX6_isAhead (l : Launch) (D : va_G) (cI cZ : ClassId) (A : Nat → Nat)  (mm : St) (x1 : Int32) (x2 : Int32) (sz : Nat) (res : Int32) (hf : fX6_isAhead mm x1 x2 = some res) : Met l yX6_isAhead wsX6_isAhead ({ frames := 1, cells := 0, slots := 0, locals := 22 }) (mP D (tysX cI cZ) [.ref (A 0), .int x1, .int x2] (wX6 cI cZ A mm) sz) (mQi D res (wX6 cI cZ A mm) (wX6 cI cZ A mm) sz) 0 0 (va_A (wX6 cI cZ A mm) sz) := by
  refine mkM_i (cc := cX6_isAhead) (maxL := 3) (own := RX6) (by decide +kernel) rfl rfl (Nat.le_of_ble_eq_true rfl) ?_
  intro p e s m args below meth c A0 Q S hK hG hA hR
  obtain ⟨hx, hb, hml, hown, hts⟩ := id S
  have k57 := hts (.fieldLink RX6 57 "SwitchFloorModel" "root" "[I") (by decide +kernel)
  have iX6 : ∀ w ∈ wsX60, w ∈ wsX6_isAhead := by decide +kernel
  have k69 := hts (.fieldLink RX6 69 "SwitchFloorModel" "cameRoot" "[I") (by decide +kernel)
  have k60 := hts (.fieldLink RX6 60 "SwitchFloorModel" "far" "[I") (by decide +kernel)
  have k72 := hts (.fieldLink RX6 72 "SwitchFloorModel" "cameCost" "[I") (by decide +kernel)
  have k17 := hts (.fieldLink RX6 17 "SwitchFloorModel" "wire" "[I") (by decide +kernel)
  intro H locs hP hD hS ls hl
  have hl : lv_has ls 3 [(0, .ref (A 0)), (1, .int x1), (2, .int x2)] := hl
  unfold fX6_isAhead at hf
  refine lv_aload_n hx hb dX6_isAhead_0 rfl (lv_at hl 0 rfl) ?_
  refine ld_f S iX6 hK hP 0 16 (.ref (A 15)) (gX6_0 _ _ _ _) rfl (by decide) k57 rfl rfl dX6_isAhead_1 ?_
  refine lv_iload_n hx hb dX6_isAhead_4 rfl (lv_at hl 1 rfl) ?_
  obtain ⟨c5, hf⟩ := ck_t hf
  refine va_iald (f := mm 16) hx hb hK hP 15 0 (gX6_15 _ _ _ _) rfl (inb_in c5) dX6_isAhead_5 ?_
  refine lv_aload_n hx hb dX6_isAhead_6 rfl (lv_at hl 0 rfl) ?_
  refine ld_f S iX6 hK hP 0 20 (.ref (A 19)) (gX6_0 _ _ _ _) rfl (by decide) k69 rfl rfl dX6_isAhead_7 ?_
  refine lv_iload_n hx hb dX6_isAhead_10 rfl (lv_at hl 2 rfl) ?_
  obtain ⟨c11, hf⟩ := ck_t hf
  refine va_iald (f := mm 20) hx hb hK hP 19 0 (gX6_19 _ _ _ _) rfl (inb_in c11) dX6_isAhead_11 ?_
  refine lv_icmp_eq (tgt := 32) hx hb dX6_isAhead_12 (by decide) (fun c12 => ?_) (fun c12 => ?_)
  · have hf := if_t c12 hf
    refine lv_aload_n hx hb dX6_isAhead_32 rfl (lv_at hl 0 rfl) ?_
    refine ld_f S iX6 hK hP 0 17 (.ref (A 16)) (gX6_0 _ _ _ _) rfl (by decide) k60 rfl rfl dX6_isAhead_33 ?_
    refine lv_iload_n hx hb dX6_isAhead_36 rfl (lv_at hl 1 rfl) ?_
    obtain ⟨c37, hf⟩ := ck_t hf
    refine va_iald (f := mm 17) hx hb hK hP 16 0 (gX6_16 _ _ _ _) rfl (inb_in c37) dX6_isAhead_37 ?_
    refine lv_aload_n hx hb dX6_isAhead_38 rfl (lv_at hl 0 rfl) ?_
    refine ld_f S iX6 hK hP 0 21 (.ref (A 20)) (gX6_0 _ _ _ _) rfl (by decide) k72 rfl rfl dX6_isAhead_39 ?_
    refine lv_iload_n hx hb dX6_isAhead_42 rfl (lv_at hl 2 rfl) ?_
    obtain ⟨c43, hf⟩ := ck_t hf
    refine va_iald (f := mm 21) hx hb hK hP 20 0 (gX6_20 _ _ _ _) rfl (inb_in c43) dX6_isAhead_43 ?_
    refine lv_icmp_eq (tgt := 70) hx hb dX6_isAhead_44 (by decide) (fun c44 => ?_) (fun c44 => ?_)
    · have hf := if_t c44 hf
      refine lv_aload_n hx hb dX6_isAhead_70 rfl (lv_at hl 0 rfl) ?_
      refine lv_iload_n hx hb dX6_isAhead_71 rfl (lv_at hl 1 rfl) ?_
      refine lv_aload_n hx hb dX6_isAhead_72 rfl (lv_at hl 0 rfl) ?_
      refine ld_f S iX6 hK hP 0 3 (.ref (A 2)) (gX6_0 _ _ _ _) rfl (by decide) k17 rfl rfl dX6_isAhead_73 ?_
      refine lv_iload_n hx hb dX6_isAhead_76 rfl (lv_at hl 2 rfl) ?_
      obtain ⟨c77, hf⟩ := ck_t hf
      refine va_iald (f := mm 3) hx hb hK hP 2 0 (gX6_2 _ _ _ _) rfl (inb_in c77) dX6_isAhead_77 ?_
      refine lv_iconst (v := 5) hx hb dX6_isAhead_78 (by decide) ?_
      refine lv_idiv hx hb dX6_isAhead_79 (by decide) ?_
      obtain ⟨q80, h80, hf⟩ := bd_t hf
      refine cl_i (va_runV (As := [.int x1, .int ((mm 3 x2.toNatClampNeg) / 5)]) (rest := []) S (mX6_isBetter l D cI cZ A mm x1 ((mm 3 x2.toNatClampNeg) / 5) H.size q80 h80) (cwV 2 hts gX6_isAhead_X6_isBetter rfl rfl rfl (by decide +kernel) ⟨Nat.le_of_ble_eq_true rfl, Nat.le_of_ble_eq_true rfl⟩) (mP_V (ci := 6) (Cut.self _ []) hP hD hK hG rfl (gX6_0 _ _ _ _)) rfl rfl hl.1 rfl (lv_room (Nat.le_of_ble_eq_true rfl)) dX6_isAhead_80 ⟨Nat.le_refl _, Nat.le_refl _⟩) (Cut.self _ _) hP hD hS hA (fun H locs hP hD hS => ?_)
      obtain ⟨c83, hf⟩ := ck_t hf
      exact hR _ ls H locs _ _ (congrArg (fun q => q) (Option.some.inj hf)) rfl (isb_n c83) dX6_isAhead_83 hP hD hS
    · have hf := if_f c44 hf
      refine lv_aload_n hx hb dX6_isAhead_47 rfl (lv_at hl 0 rfl) ?_
      refine ld_f S iX6 hK hP 0 17 (.ref (A 16)) (gX6_0 _ _ _ _) rfl (by decide) k60 rfl rfl dX6_isAhead_48 ?_
      refine lv_iload_n hx hb dX6_isAhead_51 rfl (lv_at hl 1 rfl) ?_
      obtain ⟨c52, hf⟩ := ck_t hf
      refine va_iald (f := mm 17) hx hb hK hP 16 0 (gX6_16 _ _ _ _) rfl (inb_in c52) dX6_isAhead_52 ?_
      refine lv_aload_n hx hb dX6_isAhead_53 rfl (lv_at hl 0 rfl) ?_
      refine ld_f S iX6 hK hP 0 21 (.ref (A 20)) (gX6_0 _ _ _ _) rfl (by decide) k72 rfl rfl dX6_isAhead_54 ?_
      refine lv_iload_n hx hb dX6_isAhead_57 rfl (lv_at hl 2 rfl) ?_
      obtain ⟨c58, hf⟩ := ck_t hf
      refine va_iald (f := mm 21) hx hb hK hP 20 0 (gX6_20 _ _ _ _) rfl (inb_in c58) dX6_isAhead_58 ?_
      refine lv_icmp_ge (tgt := 66) hx hb dX6_isAhead_59 (by decide) (fun c59 => ?_) (fun c59 => ?_)
      · have hf := if_t c59 hf
        refine lv_iconst (v := 0) hx hb dX6_isAhead_66 (by decide) ?_
        refine lv_goto (tgt := 83) hx hb dX6_isAhead_67 (by decide) ?_
        exact hR _ ls H locs _ _ (congrArg (fun q => q) (Option.some.inj hf)) rfl (by decide) dX6_isAhead_83 hP hD hS
      · have hf := if_f c59 hf
        refine lv_iconst (v := 1) hx hb dX6_isAhead_62 (by decide) ?_
        refine lv_goto (tgt := 83) hx hb dX6_isAhead_63 (by decide) ?_
        exact hR _ ls H locs _ _ (congrArg (fun q => q) (Option.some.inj hf)) rfl (by decide) dX6_isAhead_83 hP hD hS
  · have hf := if_f c12 hf
    refine lv_aload_n hx hb dX6_isAhead_15 rfl (lv_at hl 0 rfl) ?_
    refine lv_aload_n hx hb dX6_isAhead_16 rfl (lv_at hl 0 rfl) ?_
    refine ld_f S iX6 hK hP 0 16 (.ref (A 15)) (gX6_0 _ _ _ _) rfl (by decide) k57 rfl rfl dX6_isAhead_17 ?_
    refine lv_iload_n hx hb dX6_isAhead_20 rfl (lv_at hl 1 rfl) ?_
    obtain ⟨c21, hf⟩ := ck_t hf
    refine va_iald (f := mm 16) hx hb hK hP 15 0 (gX6_15 _ _ _ _) rfl (inb_in c21) dX6_isAhead_21 ?_
    refine lv_aload_n hx hb dX6_isAhead_22 rfl (lv_at hl 0 rfl) ?_
    refine ld_f S iX6 hK hP 0 20 (.ref (A 19)) (gX6_0 _ _ _ _) rfl (by decide) k69 rfl rfl dX6_isAhead_23 ?_
    refine lv_iload_n hx hb dX6_isAhead_26 rfl (lv_at hl 2 rfl) ?_
    obtain ⟨c27, hf⟩ := ck_t hf
    refine va_iald (f := mm 20) hx hb hK hP 19 0 (gX6_19 _ _ _ _) rfl (inb_in c27) dX6_isAhead_27 ?_
    obtain ⟨q28, h28, hf⟩ := bd_t hf
    refine cl_i (va_runV (As := [.int (mm 16 x1.toNatClampNeg), .int (mm 20 x2.toNatClampNeg)]) (rest := []) S (mX6_isBetter l D cI cZ A mm (mm 16 x1.toNatClampNeg) (mm 20 x2.toNatClampNeg) H.size q28 h28) (cwV 2 hts gX6_isAhead_X6_isBetter rfl rfl rfl (by decide +kernel) ⟨Nat.le_of_ble_eq_true rfl, Nat.le_of_ble_eq_true rfl⟩) (mP_V (ci := 6) (Cut.self _ []) hP hD hK hG rfl (gX6_0 _ _ _ _)) rfl rfl hl.1 rfl (lv_room (Nat.le_of_ble_eq_true rfl)) dX6_isAhead_28 ⟨Nat.le_refl _, Nat.le_refl _⟩) (Cut.self _ _) hP hD hS hA (fun H locs hP hD hS => ?_)
    obtain ⟨c31, hf⟩ := ck_t hf
    exact hR _ ls H locs _ _ (congrArg (fun q => q) (Option.some.inj hf)) rfl (isb_n c31) dX6_isAhead_31 hP hD hS
set_option maxHeartbeats 4000000 in
set_option maxRecDepth 100000 in
theorem mX6_roleOf (l : Launch) (D : va_G) (cI cZ : ClassId) (A : Nat → Nat)  (mm : St) (x1 : Int32) (sz : Nat) (res : Int32) (hf : fX6_roleOf mm x1 = some res) : Met l yX6_roleOf wsX6_roleOf ({ frames := 2, cells := 0, slots := 0, locals := 44 }) (mP D (tysX cI cZ) [.ref (A 0), .int x1] (wX6 cI cZ A mm) sz) (mQi D res (wX6 cI cZ A mm) (wX6 cI cZ A mm) sz) 0 0 (va_A (wX6 cI cZ A mm) sz) := by
  refine mkM_i (cc := cX6_roleOf) (maxL := 3) (own := RX6) (by decide +kernel) rfl rfl (Nat.le_of_ble_eq_true rfl) ?_
  intro p e s m args below meth c A0 Q S hK hG hA hR
  obtain ⟨hx, hb, hml, hown, hts⟩ := id S
  have k17 := hts (.fieldLink RX6 17 "SwitchFloorModel" "wire" "[I") (by decide +kernel)
  have iX6 : ∀ w ∈ wsX60, w ∈ wsX6_roleOf := by decide +kernel
  have k39 := hts (.fieldLink RX6 39 "SwitchFloorModel" "isShut" "[Z") (by decide +kernel)
  have k69 := hts (.fieldLink RX6 69 "SwitchFloorModel" "cameRoot" "[I") (by decide +kernel)
  have k66 := hts (.fieldLink RX6 66 "SwitchFloorModel" "rootPort" "[I") (by decide +kernel)
  have k78 := hts (.fieldLink RX6 78 "SwitchFloorModel" "counts" "[Z") (by decide +kernel)
  have B46 : ∀ (x1 : Int32) (x2 : Int32), fX6_roleOf_J46 mm x1 x2 = some res → Bk p l e ({ frames := 2, cells := 0, slots := 0, locals := 44 }) s m args below meth c Q A0 D 3 0 0 (wX6 cI cZ A mm) [(0, .ref (A 0)), (1, .int x1), (2, .int x2)] 46 [] := by
    intro x1 x2 hf
    unfold fX6_roleOf_J46 at hf
    intro H locs hP hD hS ls hl
    refine lv_aload_n hx hb dX6_roleOf_46 rfl (lv_at hl 0 rfl) ?_
    refine ld_f S iX6 hK hP 0 19 (.ref (A 18)) (gX6_0 _ _ _ _) rfl (by decide) k66 rfl rfl dX6_roleOf_47 ?_
    refine lv_iload_n hx hb dX6_roleOf_50 rfl (lv_at hl 2 rfl) ?_
    obtain ⟨c51, hf⟩ := ck_t hf
    refine va_iald (f := mm 19) hx hb hK hP 18 0 (gX6_18 _ _ _ _) rfl (inb_in c51) dX6_roleOf_51 ?_
    refine lv_iload_n hx hb dX6_roleOf_52 rfl (lv_at hl 1 rfl) ?_
    refine lv_icmp_ne (tgt := 60) hx hb dX6_roleOf_53 (by decide) (fun c53 => ?_) (fun c53 => ?_)
    · have hf := if_f c53 hf
      refine lv_aload_n hx hb dX6_roleOf_60 rfl (lv_at hl 0 rfl) ?_
      refine ld_f S iX6 hK hP 0 20 (.ref (A 19)) (gX6_0 _ _ _ _) rfl (by decide) k69 rfl rfl dX6_roleOf_61 ?_
      refine lv_iload_n hx hb dX6_roleOf_64 rfl (lv_at hl 1 rfl) ?_
      obtain ⟨c65, hf⟩ := ck_t hf
      refine va_iald (f := mm 20) hx hb hK hP 19 0 (gX6_19 _ _ _ _) rfl (inb_in c65) dX6_roleOf_65 ?_
      refine lv_iconst (v := (-1)) hx hb dX6_roleOf_66 (by decide) ?_
      refine lv_icmp_eq (tgt := 79) hx hb dX6_roleOf_67 (by decide) (fun c67 => ?_) (fun c67 => ?_)
      · have hf := if_t c67 hf
        refine lv_iconst (v := 2) hx hb dX6_roleOf_79 (by decide) ?_
        refine lv_goto (tgt := 84) hx hb dX6_roleOf_80 (by decide) ?_
        exact hR _ ls H locs _ _ (congrArg (fun q => q) (Option.some.inj hf)) rfl rfl dX6_roleOf_84 hP hD hS
      · have hf := if_f c67 hf
        refine lv_aload_n hx hb dX6_roleOf_70 rfl (lv_at hl 0 rfl) ?_
        refine lv_iload_n hx hb dX6_roleOf_71 rfl (lv_at hl 2 rfl) ?_
        refine lv_iload_n hx hb dX6_roleOf_72 rfl (lv_at hl 1 rfl) ?_
        obtain ⟨q73, h73, hf⟩ := bd_t hf
        refine cl_i (va_runV (As := [.int x2, .int x1]) (rest := []) S (mX6_isAhead l D cI cZ A mm x2 x1 H.size q73 h73) (cwV 2 hts gX6_roleOf_X6_isAhead rfl rfl rfl (by decide +kernel) ⟨Nat.le_of_ble_eq_true rfl, Nat.le_of_ble_eq_true rfl⟩) (mP_V (ci := 6) (Cut.self _ []) hP hD hK hG rfl (gX6_0 _ _ _ _)) rfl rfl hl.1 rfl (lv_room (Nat.le_of_ble_eq_true rfl)) dX6_roleOf_73 ⟨Nat.le_refl _, Nat.le_refl _⟩) (Cut.self _ _) hP hD hS hA (fun H locs hP hD hS => ?_)
        refine lv_if_eq (tgt := 83) hx hb dX6_roleOf_76 (by decide) (fun c76 => ?_) (fun c76 => ?_)
        · have hf := if_t c76 hf
          refine lv_iconst (v := 3) hx hb dX6_roleOf_83 (by decide) ?_
          exact hR _ ls H locs _ _ (congrArg (fun q => q) (Option.some.inj hf)) rfl rfl dX6_roleOf_84 hP hD hS
        · have hf := if_f c76 hf
          refine lv_iconst (v := 2) hx hb dX6_roleOf_79 (by decide) ?_
          refine lv_goto (tgt := 84) hx hb dX6_roleOf_80 (by decide) ?_
          exact hR _ ls H locs _ _ (congrArg (fun q => q) (Option.some.inj hf)) rfl rfl dX6_roleOf_84 hP hD hS
    · have hf := if_t c53 hf
      refine lv_iconst (v := 1) hx hb dX6_roleOf_56 (by decide) ?_
      refine lv_goto (tgt := 84) hx hb dX6_roleOf_57 (by decide) ?_
      exact hR _ ls H locs _ _ (congrArg (fun q => q) (Option.some.inj hf)) rfl rfl dX6_roleOf_84 hP hD hS
  intro H locs hP hD hS ls hl
  have hl : lv_has ls 3 [(0, .ref (A 0)), (1, .int x1)] := hl
  unfold fX6_roleOf at hf
  refine lv_iload_n hx hb dX6_roleOf_0 rfl (lv_at hl 1 rfl) ?_
  refine lv_iconst (v := 5) hx hb dX6_roleOf_1 (by decide) ?_
  refine lv_idiv hx hb dX6_roleOf_2 (by decide) ?_
  refine lv_istore_n (lv' := [(2, .int (x1 / 5)), (0, .ref (A 0)), (1, .int x1)]) hx hb dX6_roleOf_3 rfl hl (by decide) rfl (fun ls hl => ?_)
  refine lv_aload_n hx hb dX6_roleOf_4 rfl (lv_at hl 1 rfl) ?_
  refine ld_f S iX6 hK hP 0 3 (.ref (A 2)) (gX6_0 _ _ _ _) rfl (by decide) k17 rfl rfl dX6_roleOf_5 ?_
  refine lv_iload_n hx hb dX6_roleOf_8 rfl (lv_at hl 2 rfl) ?_
  obtain ⟨c9, hf⟩ := ck_t hf
  refine va_iald (f := mm 3) hx hb hK hP 2 0 (gX6_2 _ _ _ _) rfl (inb_in c9) dX6_roleOf_9 ?_
  refine lv_iconst (v := (-1)) hx hb dX6_roleOf_10 (by decide) ?_
  refine lv_icmp_eq (tgt := 23) hx hb dX6_roleOf_11 (by decide) (fun c11 => ?_) (fun c11 => ?_)
  · have hf := if_t c11 hf
    refine lv_iconst (v := 0) hx hb dX6_roleOf_23 (by decide) ?_
    exact hR _ ls H locs _ _ (congrArg (fun q => q) (Option.some.inj hf)) rfl rfl dX6_roleOf_24 hP hD hS
  · have hf := if_f c11 hf
    refine lv_aload_n hx hb dX6_roleOf_14 rfl (lv_at hl 1 rfl) ?_
    refine ld_f S iX6 hK hP 0 10 (.ref (A 9)) (gX6_0 _ _ _ _) rfl (by decide) k39 rfl rfl dX6_roleOf_15 ?_
    refine lv_iload_n hx hb dX6_roleOf_18 rfl (lv_at hl 2 rfl) ?_
    obtain ⟨c19, hf⟩ := ck_t hf
    refine va_zald (f := mm 10) hx hb hK hP 9 1 (gX6_9 _ _ _ _) rfl (inb_in c19) dX6_roleOf_19 ?_
    refine lv_if_eq (tgt := 25) hx hb dX6_roleOf_20 (by decide) (fun c20 => ?_) (fun c20 => ?_)
    · have hf := if_t c20 hf
      refine lv_aload_n hx hb dX6_roleOf_25 rfl (lv_at hl 1 rfl) ?_
      refine ld_f S iX6 hK hP 0 20 (.ref (A 19)) (gX6_0 _ _ _ _) rfl (by decide) k69 rfl rfl dX6_roleOf_26 ?_
      refine lv_iload_n hx hb dX6_roleOf_29 rfl (lv_at hl 2 rfl) ?_
      obtain ⟨c30, hf⟩ := ck_t hf
      refine va_iald (f := mm 20) hx hb hK hP 19 0 (gX6_19 _ _ _ _) rfl (inb_in c30) dX6_roleOf_30 ?_
      refine lv_iconst (v := (-1)) hx hb dX6_roleOf_31 (by decide) ?_
      refine lv_icmp_eq (tgt := 46) hx hb dX6_roleOf_32 (by decide) (fun c32 => ?_) (fun c32 => ?_)
      · have hf := if_t c32 hf
        exact B46 _ _ hf H locs hP hD hS ls (lv_sub hl [1, 2, 0] rfl)
      · have hf := if_f c32 hf
        refine lv_aload_n hx hb dX6_roleOf_35 rfl (lv_at hl 1 rfl) ?_
        refine ld_f S iX6 hK hP 0 23 (.ref (A 22)) (gX6_0 _ _ _ _) rfl (by decide) k78 rfl rfl dX6_roleOf_36 ?_
        refine lv_iload_n hx hb dX6_roleOf_39 rfl (lv_at hl 2 rfl) ?_
        obtain ⟨c40, hf⟩ := ck_t hf
        refine va_zald (f := mm 23) hx hb hK hP 22 1 (gX6_22 _ _ _ _) rfl (inb_in c40) dX6_roleOf_40 ?_
        refine lv_if_ne (tgt := 46) hx hb dX6_roleOf_41 (by decide) (fun c41 => ?_) (fun c41 => ?_)
        · have hf := if_f c41 hf
          exact B46 _ _ hf H locs hP hD hS ls (lv_sub hl [1, 2, 0] rfl)
        · have hf := if_t c41 hf
          refine lv_iconst (v := 3) hx hb dX6_roleOf_44 (by decide) ?_
          exact hR _ ls H locs _ _ (congrArg (fun q => q) (Option.some.inj hf)) rfl rfl dX6_roleOf_45 hP hD hS
    · have hf := if_f c20 hf
      refine lv_iconst (v := 0) hx hb dX6_roleOf_23 (by decide) ?_
      exact hR _ ls H locs _ _ (congrArg (fun q => q) (Option.some.inj hf)) rfl rfl dX6_roleOf_24 hP hD hS
set_option maxHeartbeats 4000000 in
set_option maxRecDepth 100000 in
theorem mX6_isPassable (l : Launch) (D : va_G) (cI cZ : ClassId) (A : Nat → Nat)  (mm : St) (x1 : Int32) (sz : Nat) (res : Int32) (hf : fX6_isPassable mm x1 = some res) : Met l yX6_isPassable wsX6_isPassable ({ frames := 0, cells := 0, slots := 0, locals := 0 }) (mP D (tysX cI cZ) [.ref (A 0), .int x1] (wX6 cI cZ A mm) sz) (mQi D res (wX6 cI cZ A mm) (wX6 cI cZ A mm) sz) 0 0 (va_A (wX6 cI cZ A mm) sz) := by
  refine mkM_i (cc := cX6_isPassable) (maxL := 2) (own := RX6) (by decide +kernel) rfl rfl (Nat.le_of_ble_eq_true rfl) ?_
  intro p e s m args below meth c A0 Q S hK hG hA hR
  obtain ⟨hx, hb, hml, hown, hts⟩ := id S
  have k17 := hts (.fieldLink RX6 17 "SwitchFloorModel" "wire" "[I") (by decide +kernel)
  have iX6 : ∀ w ∈ wsX60, w ∈ wsX6_isPassable := by decide +kernel
  have k39 := hts (.fieldLink RX6 39 "SwitchFloorModel" "isShut" "[Z") (by decide +kernel)
  intro H locs hP hD hS ls hl
  have hl : lv_has ls 2 [(0, .ref (A 0)), (1, .int x1)] := hl
  unfold fX6_isPassable at hf
  refine lv_aload_n hx hb dX6_isPassable_0 rfl (lv_at hl 0 rfl) ?_
  refine ld_f S iX6 hK hP 0 3 (.ref (A 2)) (gX6_0 _ _ _ _) rfl (by decide) k17 rfl rfl dX6_isPassable_1 ?_
  refine lv_iload_n hx hb dX6_isPassable_4 rfl (lv_at hl 1 rfl) ?_
  obtain ⟨c5, hf⟩ := ck_t hf
  refine va_iald (f := mm 3) hx hb hK hP 2 0 (gX6_2 _ _ _ _) rfl (inb_in c5) dX6_isPassable_5 ?_
  refine lv_iconst (v := (-1)) hx hb dX6_isPassable_6 (by decide) ?_
  refine lv_icmp_eq (tgt := 37) hx hb dX6_isPassable_7 (by decide) (fun c7 => ?_) (fun c7 => ?_)
  · have hf := if_t c7 hf
    refine lv_iconst (v := 0) hx hb dX6_isPassable_37 (by decide) ?_
    exact hR _ ls H locs _ _ (congrArg (fun q => q) (Option.some.inj hf)) rfl (by decide) dX6_isPassable_38 hP hD hS
  · have hf := if_f c7 hf
    refine lv_aload_n hx hb dX6_isPassable_10 rfl (lv_at hl 0 rfl) ?_
    refine ld_f S iX6 hK hP 0 10 (.ref (A 9)) (gX6_0 _ _ _ _) rfl (by decide) k39 rfl rfl dX6_isPassable_11 ?_
    refine lv_iload_n hx hb dX6_isPassable_14 rfl (lv_at hl 1 rfl) ?_
    obtain ⟨c15, hf⟩ := ck_t hf
    refine va_zald (f := mm 10) hx hb hK hP 9 1 (gX6_9 _ _ _ _) rfl (inb_in c15) dX6_isPassable_15 ?_
    refine lv_if_ne (tgt := 37) hx hb dX6_isPassable_16 (by decide) (fun c16 => ?_) (fun c16 => ?_)
    · have hf := if_f c16 hf
      refine lv_iconst (v := 0) hx hb dX6_isPassable_37 (by decide) ?_
      exact hR _ ls H locs _ _ (congrArg (fun q => q) (Option.some.inj hf)) rfl (by decide) dX6_isPassable_38 hP hD hS
    · have hf := if_t c16 hf
      refine lv_aload_n hx hb dX6_isPassable_19 rfl (lv_at hl 0 rfl) ?_
      refine ld_f S iX6 hK hP 0 10 (.ref (A 9)) (gX6_0 _ _ _ _) rfl (by decide) k39 rfl rfl dX6_isPassable_20 ?_
      refine lv_aload_n hx hb dX6_isPassable_23 rfl (lv_at hl 0 rfl) ?_
      refine ld_f S iX6 hK hP 0 3 (.ref (A 2)) (gX6_0 _ _ _ _) rfl (by decide) k17 rfl rfl dX6_isPassable_24 ?_
      refine lv_iload_n hx hb dX6_isPassable_27 rfl (lv_at hl 1 rfl) ?_
      obtain ⟨c28, hf⟩ := ck_t hf
      refine va_iald (f := mm 3) hx hb hK hP 2 0 (gX6_2 _ _ _ _) rfl (inb_in c28) dX6_isPassable_28 ?_
      obtain ⟨c29, hf⟩ := ck_t hf
      refine va_zald (f := mm 10) hx hb hK hP 9 1 (gX6_9 _ _ _ _) rfl (inb_in c29) dX6_isPassable_29 ?_
      refine lv_if_ne (tgt := 37) hx hb dX6_isPassable_30 (by decide) (fun c30 => ?_) (fun c30 => ?_)
      · have hf := if_f c30 hf
        refine lv_iconst (v := 0) hx hb dX6_isPassable_37 (by decide) ?_
        exact hR _ ls H locs _ _ (congrArg (fun q => q) (Option.some.inj hf)) rfl (by decide) dX6_isPassable_38 hP hD hS
      · have hf := if_t c30 hf
        refine lv_iconst (v := 1) hx hb dX6_isPassable_33 (by decide) ?_
        refine lv_goto (tgt := 38) hx hb dX6_isPassable_34 (by decide) ?_
        exact hR _ ls H locs _ _ (congrArg (fun q => q) (Option.some.inj hf)) rfl (by decide) dX6_isPassable_38 hP hD hS
set_option maxHeartbeats 4000000 in
set_option maxRecDepth 100000 in
theorem mX6_spreads (l : Launch) (D : va_G) (cI cZ : ClassId) (A : Nat → Nat)  (mm : St) (sz : Nat) (res : St) (hf : fX6_spreads mm = some res) : Met l yX6_spreads wsX6_spreads ({ frames := 1, cells := 0, slots := 0, locals := 21 }) (mP D (tysX cI cZ) [.ref (A 0)] (wX6 cI cZ A mm) sz) (mQv D (wX6 cI cZ A mm) (wX6 cI cZ A res) sz) 0 0 (va_A (wX6 cI cZ A mm) sz) := by
  refine mkM_v (cc := cX6_spreads) (maxL := 3) (own := RX6) (by decide +kernel) rfl rfl (Nat.le_of_ble_eq_true rfl) ?_
  intro p e s m args below meth c A0 Q S hK hG hA hR
  obtain ⟨hx, hb, hml, hown, hts⟩ := id S
  have k123 := hts (.fieldLink RX6 123 "SwitchFloorModel" "isReached" "[Z") (by decide +kernel)
  have iX6 : ∀ w ∈ wsX60, w ∈ wsX6_spreads := by decide +kernel
  have k17 := hts (.fieldLink RX6 17 "SwitchFloorModel" "wire" "[I") (by decide +kernel)
  have B10 : ∀ (x1 : Int32) (k2 : (St × Int32) → Option (St)) (hk2 : ∀ a2, k2 a2 = some res → Bk p l e ({ frames := 1, cells := 0, slots := 0, locals := 21 }) s m args below meth c Q A0 D 3 0 0 (wX6 cI cZ A (a2.1)) [(0, .ref (A 0)), (1, .int (a2.2))] 2 []) (mm : St) (x2 : Int32), fX6_spreads_L10 k2 x1 mm x2 = some res → Bk p l e ({ frames := 1, cells := 0, slots := 0, locals := 21 }) s m args below meth c Q A0 D 3 0 0 (wX6 cI cZ A mm) [(0, .ref (A 0)), (1, .int x1), (2, .int x2)] 10 [] := by
    intro x1 k2 hk2 mm x2 hf
    refine loop_ind (step := (fun k a => fX6_spreads_S10 k2 k x1 (a.1) (a.2))) (fun a => Bk p l e ({ frames := 1, cells := 0, slots := 0, locals := 21 }) s m args below meth c Q A0 D 3 0 0 (wX6 cI cZ A (a.1)) [(0, .ref (A 0)), (1, .int x1), (2, .int (a.2))] 10 []) ?_ _ _ hf
    clear hf
    intro k10 hk10 a hf
    obtain ⟨mm_, x2_⟩ := a
    clear mm x2
    obtain ⟨mm, e_⟩ : ∃ z, z = mm_ := ⟨_, rfl⟩
    subst e_
    obtain ⟨x2, e_⟩ : ∃ z, z = x2_ := ⟨_, rfl⟩
    subst e_
    have hf : fX6_spreads_S10 k2 k10 x1 mm x2 = some res := hf
    show Bk p l e ({ frames := 1, cells := 0, slots := 0, locals := 21 }) s m args below meth c Q A0 D 3 0 0 (wX6 cI cZ A mm) [(0, .ref (A 0)), (1, .int x1), (2, .int x2)] 10 []
    unfold fX6_spreads_S10 at hf
    intro H locs hP hD hS ls hl
    refine lv_iload_n hx hb dX6_spreads_10 rfl (lv_at hl 2 rfl) ?_
    refine lv_bipush (v := 30) hx hb dX6_spreads_11 (by decide) ?_
    refine lv_icmp_ge (tgt := 55) hx hb dX6_spreads_13 (by decide) (fun c13 => ?_) (fun c13 => ?_)
    · have hf := if_t c13 hf
      refine lv_iinc (v := x1 + 1) (lv' := [(1, .int (x1 + 1)), (0, .ref (A 0)), (2, .int x2)]) hx hb dX6_spreads_55 hl (k := 1) rfl rfl (by decide) rfl (fun ls hl => ?_)
      refine lv_goto (tgt := 2) hx hb dX6_spreads_58 (by decide) ?_
      exact hk2 _ hf H locs hP hD hS ls (lv_sub hl [1, 0] rfl)
    · have hf := if_f c13 hf
      refine lv_aload_n hx hb dX6_spreads_16 rfl (lv_at hl 0 rfl) ?_
      refine lv_iload_n hx hb dX6_spreads_17 rfl (lv_at hl 2 rfl) ?_
      obtain ⟨q18, h18, hf⟩ := bd_t hf
      refine cl_i (va_runV (As := [.int x2]) (rest := []) S (mX6_isPassable l D cI cZ A mm x2 H.size q18 h18) (cwV 1 hts gX6_spreads_X6_isPassable rfl rfl rfl (by decide +kernel) ⟨Nat.le_of_ble_eq_true rfl, Nat.le_of_ble_eq_true rfl⟩) (mP_V (ci := 6) (Cut.self _ []) hP hD hK hG rfl (gX6_0 _ _ _ _)) rfl rfl hl.1 rfl (lv_room (Nat.le_of_ble_eq_true rfl)) dX6_spreads_18 ⟨Nat.le_refl _, Nat.le_refl _⟩) (Cut.self _ _) hP hD hS hA (fun H locs hP hD hS => ?_)
      refine lv_if_eq (tgt := 49) hx hb dX6_spreads_21 (by decide) (fun c21 => ?_) (fun c21 => ?_)
      · have hf := if_t c21 hf
        refine lv_iinc (v := x2 + 1) (lv' := [(2, .int (x2 + 1)), (0, .ref (A 0)), (1, .int x1)]) hx hb dX6_spreads_49 hl (k := 2) rfl rfl (by decide) rfl (fun ls hl => ?_)
        refine lv_goto (tgt := 10) hx hb dX6_spreads_52 (by decide) ?_
        exact hk10 _ hf H locs hP hD hS ls (lv_sub hl [1, 2, 0] rfl)
      · have hf := if_f c21 hf
        refine lv_aload_n hx hb dX6_spreads_24 rfl (lv_at hl 0 rfl) ?_
        refine ld_f S iX6 hK hP 0 39 (.ref (A 37)) (gX6_0 _ _ _ _) rfl (by decide) k123 rfl rfl dX6_spreads_25 ?_
        refine lv_iload_n hx hb dX6_spreads_28 rfl (lv_at hl 2 rfl) ?_
        refine lv_iconst (v := 5) hx hb dX6_spreads_29 (by decide) ?_
        refine lv_idiv hx hb dX6_spreads_30 (by decide) ?_
        obtain ⟨c31, hf⟩ := ck_t hf
        refine va_zald (f := mm 39) hx hb hK hP 37 1 (gX6_37 _ _ _ _) rfl (inb_in c31) dX6_spreads_31 ?_
        refine lv_if_eq (tgt := 49) hx hb dX6_spreads_32 (by decide) (fun c32 => ?_) (fun c32 => ?_)
        · have hf := if_t c32 hf
          refine lv_iinc (v := x2 + 1) (lv' := [(2, .int (x2 + 1)), (0, .ref (A 0)), (1, .int x1)]) hx hb dX6_spreads_49 hl (k := 2) rfl rfl (by decide) rfl (fun ls hl => ?_)
          refine lv_goto (tgt := 10) hx hb dX6_spreads_52 (by decide) ?_
          exact hk10 _ hf H locs hP hD hS ls (lv_sub hl [1, 2, 0] rfl)
        · have hf := if_f c32 hf
          refine lv_aload_n hx hb dX6_spreads_35 rfl (lv_at hl 0 rfl) ?_
          refine ld_f S iX6 hK hP 0 39 (.ref (A 37)) (gX6_0 _ _ _ _) rfl (by decide) k123 rfl rfl dX6_spreads_36 ?_
          refine lv_aload_n hx hb dX6_spreads_39 rfl (lv_at hl 0 rfl) ?_
          refine ld_f S iX6 hK hP 0 3 (.ref (A 2)) (gX6_0 _ _ _ _) rfl (by decide) k17 rfl rfl dX6_spreads_40 ?_
          refine lv_iload_n hx hb dX6_spreads_43 rfl (lv_at hl 2 rfl) ?_
          obtain ⟨c44, hf⟩ := ck_t hf
          refine va_iald (f := mm 3) hx hb hK hP 2 0 (gX6_2 _ _ _ _) rfl (inb_in c44) dX6_spreads_44 ?_
          refine lv_iconst (v := 5) hx hb dX6_spreads_45 (by decide) ?_
          refine lv_idiv hx hb dX6_spreads_46 (by decide) ?_
          refine lv_iconst (v := 1) hx hb dX6_spreads_47 (by decide) ?_
          obtain ⟨c48, hf⟩ := ck_t hf
          refine st_z hx hb hK hP hD hS 37 1 (sX6_37 _ _ _ _ _ _) (gX6_37 _ _ _ _) rfl c48 dX6_spreads_48 (fun H locs hP hD hS => ?_)
          refine lv_iinc (v := x2 + 1) (lv' := [(2, .int (x2 + 1)), (0, .ref (A 0)), (1, .int x1)]) hx hb dX6_spreads_49 hl (k := 2) rfl rfl (by decide) rfl (fun ls hl => ?_)
          refine lv_goto (tgt := 10) hx hb dX6_spreads_52 (by decide) ?_
          exact hk10 _ hf H locs hP hD hS ls (lv_sub hl [1, 2, 0] rfl)
  have B2 : ∀ (mm : St) (x1 : Int32), fX6_spreads_L2 mm x1 = some res → Bk p l e ({ frames := 1, cells := 0, slots := 0, locals := 21 }) s m args below meth c Q A0 D 3 0 0 (wX6 cI cZ A mm) [(0, .ref (A 0)), (1, .int x1)] 2 [] := by
    intro mm x1 hf
    refine loop_ind (step := (fun k a => fX6_spreads_S2 k (a.1) (a.2))) (fun a => Bk p l e ({ frames := 1, cells := 0, slots := 0, locals := 21 }) s m args below meth c Q A0 D 3 0 0 (wX6 cI cZ A (a.1)) [(0, .ref (A 0)), (1, .int (a.2))] 2 []) ?_ _ _ hf
    clear hf
    intro k2 hk2 a hf
    obtain ⟨mm_, x1_⟩ := a
    clear mm x1
    obtain ⟨mm, e_⟩ : ∃ z, z = mm_ := ⟨_, rfl⟩
    subst e_
    obtain ⟨x1, e_⟩ : ∃ z, z = x1_ := ⟨_, rfl⟩
    subst e_
    have hf : fX6_spreads_S2 k2 mm x1 = some res := hf
    show Bk p l e ({ frames := 1, cells := 0, slots := 0, locals := 21 }) s m args below meth c Q A0 D 3 0 0 (wX6 cI cZ A mm) [(0, .ref (A 0)), (1, .int x1)] 2 []
    unfold fX6_spreads_S2 at hf
    intro H locs hP hD hS ls hl
    refine lv_iload_n hx hb dX6_spreads_2 rfl (lv_at hl 1 rfl) ?_
    refine lv_bipush (v := 6) hx hb dX6_spreads_3 (by decide) ?_
    refine lv_icmp_ge (tgt := 61) hx hb dX6_spreads_5 (by decide) (fun c5 => ?_) (fun c5 => ?_)
    · have hf := if_t c5 hf
      exact hR _ ls H locs _ (congrArg (fun q => (wX6 cI cZ A q)) (Option.some.inj hf)) dX6_spreads_61 hP hD hS
    · have hf := if_f c5 hf
      refine lv_iconst (v := 0) hx hb dX6_spreads_8 (by decide) ?_
      refine lv_istore_n (lv' := [(2, .int 0), (0, .ref (A 0)), (1, .int x1)]) hx hb dX6_spreads_9 rfl hl (by decide) rfl (fun ls hl => ?_)
      exact B10 _ k2 hk2 _ _ hf H locs hP hD hS ls (lv_sub hl [1, 2, 0] rfl)
  intro H locs hP hD hS ls hl
  have hl : lv_has ls 3 [(0, .ref (A 0))] := hl
  unfold fX6_spreads at hf
  refine lv_iconst (v := 0) hx hb dX6_spreads_0 (by decide) ?_
  refine lv_istore_n (lv' := [(1, .int 0), (0, .ref (A 0))]) hx hb dX6_spreads_1 rfl hl (by decide) rfl (fun ls hl => ?_)
  exact B2 _ _ hf H locs hP hD hS ls (lv_sub hl [1, 0] rfl)
set_option maxHeartbeats 4000000 in
set_option maxRecDepth 100000 in
theorem mX6_opens (l : Launch) (D : va_G) (cI cZ : ClassId) (A : Nat → Nat)  (mm : St) (sz : Nat) (res : St) (hf : fX6_opens mm = some res) : Met l yX6_opens wsX6_opens ({ frames := 3, cells := 0, slots := 0, locals := 66 }) (mP D (tysX cI cZ) [.ref (A 0)] (wX6 cI cZ A mm) sz) (mQv D (wX6 cI cZ A mm) (wX6 cI cZ A res) sz) 0 0 (va_A (wX6 cI cZ A mm) sz) := by
  refine mkM_v (cc := cX6_opens) (maxL := 4) (own := RX6) (by decide +kernel) rfl rfl (Nat.le_of_ble_eq_true rfl) ?_
  intro p e s m args below meth c A0 Q S hK hG hA hR
  obtain ⟨hx, hb, hml, hown, hts⟩ := id S
  have k81 := hts (.fieldLink RX6 81 "SwitchFloorModel" "entries" "[I") (by decide +kernel)
  have iX6 : ∀ w ∈ wsX60, w ∈ wsX6_opens := by decide +kernel
  have k123 := hts (.fieldLink RX6 123 "SwitchFloorModel" "isReached" "[Z") (by decide +kernel)
  have k48 := hts (.fieldLink RX6 48 "SwitchFloorModel" "role" "[I") (by decide +kernel)
  have k17 := hts (.fieldLink RX6 17 "SwitchFloorModel" "wire" "[I") (by decide +kernel)
  have k39 := hts (.fieldLink RX6 39 "SwitchFloorModel" "isShut" "[Z") (by decide +kernel)
  have k51 := hts (.fieldLink RX6 51 "SwitchFloorModel" "streak" "[I") (by decide +kernel)
  have k45 := hts (.fieldLink RX6 45 "SwitchFloorModel" "isOpen" "[Z") (by decide +kernel)
  have B219 : ∀ (mm : St) (x1 : Int32) (y0 : Int32) (y1 : Int32) (k189 : (St × Int32) → Option (St)) (hk189 : ∀ a189, k189 a189 = some res → Bk p l e ({ frames := 3, cells := 0, slots := 0, locals := 66 }) s m args below meth c Q A0 D 4 0 0 (wX6 cI cZ A (a189.1)) [(0, .ref (A 0)), (1, .int (a189.2))] 189 []), fX6_opens_J219 k189 mm x1 y0 y1 = some res → Bk p l e ({ frames := 3, cells := 0, slots := 0, locals := 66 }) s m args below meth c Q A0 D 4 0 0 (wX6 cI cZ A mm) [(0, .ref (A 0)), (1, .int x1)] 219 [.int y0, .int y1, .ref (A 23)] := by
    intro mm x1 y0 y1 k189 hk189 hf
    unfold fX6_opens_J219 at hf
    intro H locs hP hD hS ls hl
    obtain ⟨c219, hf⟩ := ck_t hf
    refine st_i hx hb hK hP hD hS 23 0 (sX6_23 _ _ _ _ _ _) (gX6_23 _ _ _ _) rfl c219 dX6_opens_219 (fun H locs hP hD hS => ?_)
    refine lv_iinc (v := x1 + 1) (lv' := [(1, .int (x1 + 1)), (0, .ref (A 0))]) hx hb dX6_opens_220 hl (k := 1) rfl rfl (by decide) rfl (fun ls hl => ?_)
    refine lv_goto (tgt := 189) hx hb dX6_opens_223 (by decide) ?_
    exact hk189 _ hf H locs hP hD hS ls (lv_sub hl [1, 0] rfl)
  have B189 : ∀ (mm : St) (x1 : Int32), fX6_opens_L189 mm x1 = some res → Bk p l e ({ frames := 3, cells := 0, slots := 0, locals := 66 }) s m args below meth c Q A0 D 4 0 0 (wX6 cI cZ A mm) [(0, .ref (A 0)), (1, .int x1)] 189 [] := by
    intro mm x1 hf
    refine loop_ind (step := (fun k a => fX6_opens_S189 k (a.1) (a.2))) (fun a => Bk p l e ({ frames := 3, cells := 0, slots := 0, locals := 66 }) s m args below meth c Q A0 D 4 0 0 (wX6 cI cZ A (a.1)) [(0, .ref (A 0)), (1, .int (a.2))] 189 []) ?_ _ _ hf
    clear hf
    intro k189 hk189 a hf
    obtain ⟨mm_, x1_⟩ := a
    clear mm x1
    obtain ⟨mm, e_⟩ : ∃ z, z = mm_ := ⟨_, rfl⟩
    subst e_
    obtain ⟨x1, e_⟩ : ∃ z, z = x1_ := ⟨_, rfl⟩
    subst e_
    have hf : fX6_opens_S189 k189 mm x1 = some res := hf
    show Bk p l e ({ frames := 3, cells := 0, slots := 0, locals := 66 }) s m args below meth c Q A0 D 4 0 0 (wX6 cI cZ A mm) [(0, .ref (A 0)), (1, .int x1)] 189 []
    unfold fX6_opens_S189 at hf
    intro H locs hP hD hS ls hl
    refine lv_iload_n hx hb dX6_opens_189 rfl (lv_at hl 1 rfl) ?_
    refine lv_bipush (v := 6) hx hb dX6_opens_190 (by decide) ?_
    refine lv_icmp_ge (tgt := 226) hx hb dX6_opens_192 (by decide) (fun c192 => ?_) (fun c192 => ?_)
    · have hf := if_t c192 hf
      exact hR _ ls H locs _ (congrArg (fun q => (wX6 cI cZ A q)) (Option.some.inj hf)) dX6_opens_226 hP hD hS
    · have hf := if_f c192 hf
      refine lv_aload_n hx hb dX6_opens_195 rfl (lv_at hl 0 rfl) ?_
      refine ld_f S iX6 hK hP 0 24 (.ref (A 23)) (gX6_0 _ _ _ _) rfl (by decide) k81 rfl rfl dX6_opens_196 ?_
      refine lv_iload_n hx hb dX6_opens_199 rfl (lv_at hl 1 rfl) ?_
      refine lv_aload_n hx hb dX6_opens_200 rfl (lv_at hl 0 rfl) ?_
      refine ld_f S iX6 hK hP 0 39 (.ref (A 37)) (gX6_0 _ _ _ _) rfl (by decide) k123 rfl rfl dX6_opens_201 ?_
      refine lv_iload_n hx hb dX6_opens_204 rfl (lv_at hl 1 rfl) ?_
      obtain ⟨c205, hf⟩ := ck_t hf
      refine va_zald (f := mm 39) hx hb hK hP 37 1 (gX6_37 _ _ _ _) rfl (inb_in c205) dX6_opens_205 ?_
      refine lv_if_eq (tgt := 213) hx hb dX6_opens_206 (by decide) (fun c206 => ?_) (fun c206 => ?_)
      · have hf := if_t c206 hf
        refine lv_aload_n hx hb dX6_opens_213 rfl (lv_at hl 0 rfl) ?_
        refine ld_f S iX6 hK hP 0 24 (.ref (A 23)) (gX6_0 _ _ _ _) rfl (by decide) k81 rfl rfl dX6_opens_214 ?_
        refine lv_iload_n hx hb dX6_opens_217 rfl (lv_at hl 1 rfl) ?_
        obtain ⟨c218, hf⟩ := ck_t hf
        refine va_iald (f := mm 24) hx hb hK hP 23 0 (gX6_23 _ _ _ _) rfl (inb_in c218) dX6_opens_218 ?_
        exact B219 _ _ _ _ k189 hk189 hf H locs hP hD hS ls (lv_sub hl [0, 1] rfl)
      · have hf := if_f c206 hf
        refine lv_iconst (v := 0) hx hb dX6_opens_209 (by decide) ?_
        refine lv_goto (tgt := 219) hx hb dX6_opens_210 (by decide) ?_
        exact B219 _ _ _ _ k189 hk189 hf H locs hP hD hS ls (lv_sub hl [0, 1] rfl)
  have B183 : ∀ (mm : St), fX6_opens_J183 mm = some res → Bk p l e ({ frames := 3, cells := 0, slots := 0, locals := 66 }) s m args below meth c Q A0 D 4 0 0 (wX6 cI cZ A mm) [(0, .ref (A 0))] 183 [] := by
    intro mm hf
    unfold fX6_opens_J183 at hf
    intro H locs hP hD hS ls hl
    refine lv_aload_n hx hb dX6_opens_183 rfl (lv_at hl 0 rfl) ?_
    obtain ⟨q184, h184, hf⟩ := bd_t hf
    refine cl_v (va_runV (As := []) (rest := []) S (mX6_spreads l D cI cZ A mm H.size q184 h184) (cwV 0 hts gX6_opens_X6_spreads rfl rfl rfl (by decide +kernel) ⟨Nat.le_of_ble_eq_true rfl, Nat.le_of_ble_eq_true rfl⟩) (mP_V (ci := 6) (Cut.self _ []) hP hD hK hG rfl (gX6_0 _ _ _ _)) rfl rfl hl.1 rfl (lv_room (Nat.le_of_ble_eq_true rfl)) dX6_opens_184 ⟨Nat.le_refl _, Nat.le_refl _⟩) (Cut.self _ _) hP hD hS hA (fun H locs hP hD hS => ?_)
    refine lv_iconst (v := 0) hx hb dX6_opens_187 (by decide) ?_
    refine lv_istore_n (lv' := [(1, .int 0), (0, .ref (A 0))]) hx hb dX6_opens_188 rfl hl (by decide) rfl (fun ls hl => ?_)
    exact B189 _ _ hf H locs hP hD hS ls (lv_sub hl [1, 0] rfl)
  have B176 : ∀ (mm : St) (x1 : Int32) (y0 : Int32) (y1 : Int32) (k23 : (St × Int32) → Option (St)) (hk23 : ∀ a23, k23 a23 = some res → Bk p l e ({ frames := 3, cells := 0, slots := 0, locals := 66 }) s m args below meth c Q A0 D 4 0 0 (wX6 cI cZ A (a23.1)) [(0, .ref (A 0)), (1, .int (a23.2))] 23 []), fX6_opens_J176 k23 mm x1 y0 y1 = some res → Bk p l e ({ frames := 3, cells := 0, slots := 0, locals := 66 }) s m args below meth c Q A0 D 4 0 0 (wX6 cI cZ A mm) [(0, .ref (A 0)), (1, .int x1)] 176 [.int y0, .int y1, .ref (A 37)] := by
    intro mm x1 y0 y1 k23 hk23 hf
    unfold fX6_opens_J176 at hf
    intro H locs hP hD hS ls hl
    obtain ⟨c176, hf⟩ := ck_t hf
    refine st_z hx hb hK hP hD hS 37 1 (sX6_37 _ _ _ _ _ _) (gX6_37 _ _ _ _) rfl c176 dX6_opens_176 (fun H locs hP hD hS => ?_)
    refine lv_iinc (v := x1 + 1) (lv' := [(1, .int (x1 + 1)), (0, .ref (A 0))]) hx hb dX6_opens_177 hl (k := 1) rfl rfl (by decide) rfl (fun ls hl => ?_)
    refine lv_goto (tgt := 23) hx hb dX6_opens_180 (by decide) ?_
    exact hk23 _ hf H locs hP hD hS ls (lv_sub hl [1, 0] rfl)
  have B142 : ∀ (mm : St) (x1 : Int32) (x3 : Int32) (y0 : Int32) (y1 : Int32) (k23 : (St × Int32) → Option (St)) (hk23 : ∀ a23, k23 a23 = some res → Bk p l e ({ frames := 3, cells := 0, slots := 0, locals := 66 }) s m args below meth c Q A0 D 4 0 0 (wX6 cI cZ A (a23.1)) [(0, .ref (A 0)), (1, .int (a23.2))] 23 []), fX6_opens_J142 k23 mm x1 x3 y0 y1 = some res → Bk p l e ({ frames := 3, cells := 0, slots := 0, locals := 66 }) s m args below meth c Q A0 D 4 0 0 (wX6 cI cZ A mm) [(0, .ref (A 0)), (1, .int x1), (3, .int x3)] 142 [.int y0, .int y1, .ref (A 11)] := by
    intro mm x1 x3 y0 y1 k23 hk23 hf
    unfold fX6_opens_J142 at hf
    intro H locs hP hD hS ls hl
    obtain ⟨c142, hf⟩ := ck_t hf
    refine st_z hx hb hK hP hD hS 11 1 (sX6_11 _ _ _ _ _ _) (gX6_11 _ _ _ _) rfl c142 dX6_opens_142 (fun H locs hP hD hS => ?_)
    refine lv_aload_n hx hb dX6_opens_143 rfl (lv_at hl 0 rfl) ?_
    refine ld_f S iX6 hK hP 0 39 (.ref (A 37)) (gX6_0 _ _ _ _) rfl (by decide) k123 rfl rfl dX6_opens_144 ?_
    refine lv_iload_n hx hb dX6_opens_147 rfl (lv_at hl 1 rfl) ?_
    refine lv_iconst (v := 5) hx hb dX6_opens_148 (by decide) ?_
    refine lv_idiv hx hb dX6_opens_149 (by decide) ?_
    refine lv_aload_n hx hb dX6_opens_150 rfl (lv_at hl 0 rfl) ?_
    refine ld_f S iX6 hK hP 0 39 (.ref (A 37)) (gX6_0 _ _ _ _) rfl (by decide) k123 rfl rfl dX6_opens_151 ?_
    refine lv_iload_n hx hb dX6_opens_154 rfl (lv_at hl 1 rfl) ?_
    refine lv_iconst (v := 5) hx hb dX6_opens_155 (by decide) ?_
    refine lv_idiv hx hb dX6_opens_156 (by decide) ?_
    obtain ⟨c157, hf⟩ := ck_t hf
    refine va_zald (f := mm 39) hx hb hK hP 37 1 (gX6_37 _ _ _ _) rfl (inb_in c157) dX6_opens_157 ?_
    refine lv_if_ne (tgt := 171) hx hb dX6_opens_158 (by decide) (fun c158 => ?_) (fun c158 => ?_)
    · have hf := if_f c158 hf
      refine lv_iconst (v := 1) hx hb dX6_opens_171 (by decide) ?_
      refine lv_goto (tgt := 176) hx hb dX6_opens_172 (by decide) ?_
      exact B176 _ _ _ _ k23 hk23 hf H locs hP hD hS ls (lv_sub hl [0, 1] rfl)
    · have hf := if_t c158 hf
      refine lv_iload_n hx hb dX6_opens_161 rfl (lv_at hl 2 rfl) ?_
      refine lv_aload_n hx hb dX6_opens_162 rfl (lv_at hl 0 rfl) ?_
      refine ld_f S iX6 hK hP 0 12 (.ref (A 11)) (gX6_0 _ _ _ _) rfl (by decide) k45 rfl rfl dX6_opens_163 ?_
      refine lv_iload_n hx hb dX6_opens_166 rfl (lv_at hl 1 rfl) ?_
      obtain ⟨c167, hf⟩ := ck_t hf
      refine va_zald (f := (aS mm 12 y1 (vp_nar .boolean y0)) 12) hx hb hK hP 11 1 (gX6_11 _ _ _ _) rfl (inb_in c167) dX6_opens_167 ?_
      refine lv_icmp_eq (tgt := 175) hx hb dX6_opens_168 (by decide) (fun c168 => ?_) (fun c168 => ?_)
      · have hf := if_t c168 hf
        refine lv_iconst (v := 0) hx hb dX6_opens_175 (by decide) ?_
        exact B176 _ _ _ _ k23 hk23 hf H locs hP hD hS ls (lv_sub hl [0, 1] rfl)
      · have hf := if_f c168 hf
        refine lv_iconst (v := 1) hx hb dX6_opens_171 (by decide) ?_
        refine lv_goto (tgt := 176) hx hb dX6_opens_172 (by decide) ?_
        exact B176 _ _ _ _ k23 hk23 hf H locs hP hD hS ls (lv_sub hl [0, 1] rfl)
  have B141 : ∀ (mm : St) (x1 : Int32) (x3 : Int32) (y0 : Int32) (k23 : (St × Int32) → Option (St)) (hk23 : ∀ a23, k23 a23 = some res → Bk p l e ({ frames := 3, cells := 0, slots := 0, locals := 66 }) s m args below meth c Q A0 D 4 0 0 (wX6 cI cZ A (a23.1)) [(0, .ref (A 0)), (1, .int (a23.2))] 23 []), fX6_opens_J141 k23 mm x1 x3 y0 = some res → Bk p l e ({ frames := 3, cells := 0, slots := 0, locals := 66 }) s m args below meth c Q A0 D 4 0 0 (wX6 cI cZ A mm) [(0, .ref (A 0)), (1, .int x1), (3, .int x3)] 141 [.int y0, .ref (A 11)] := by
    intro mm x1 x3 y0 k23 hk23 hf
    unfold fX6_opens_J141 at hf
    intro H locs hP hD hS ls hl
    refine lv_iconst (v := 0) hx hb dX6_opens_141 (by decide) ?_
    exact B142 _ _ _ _ _ k23 hk23 hf H locs hP hD hS ls (lv_sub hl [0, 1, 2] rfl)
  have B106 : ∀ (mm : St) (x1 : Int32) (x2 : Int32) (y0 : Int32) (y1 : Int32) (k23 : (St × Int32) → Option (St)) (hk23 : ∀ a23, k23 a23 = some res → Bk p l e ({ frames := 3, cells := 0, slots := 0, locals := 66 }) s m args below meth c Q A0 D 4 0 0 (wX6 cI cZ A (a23.1)) [(0, .ref (A 0)), (1, .int (a23.2))] 23 []), fX6_opens_J106 k23 mm x1 x2 y0 y1 = some res → Bk p l e ({ frames := 3, cells := 0, slots := 0, locals := 66 }) s m args below meth c Q A0 D 4 0 0 (wX6 cI cZ A mm) [(0, .ref (A 0)), (1, .int x1), (2, .int x2)] 106 [.int y0, .int y1, .ref (A 13)] := by
    intro mm x1 x2 y0 y1 k23 hk23 hf
    unfold fX6_opens_J106 at hf
    intro H locs hP hD hS ls hl
    obtain ⟨c106, hf⟩ := ck_t hf
    refine st_i hx hb hK hP hD hS 13 0 (sX6_13 _ _ _ _ _ _) (gX6_13 _ _ _ _) rfl c106 dX6_opens_106 (fun H locs hP hD hS => ?_)
    refine lv_aload_n hx hb dX6_opens_107 rfl (lv_at hl 0 rfl) ?_
    refine ld_f S iX6 hK hP 0 12 (.ref (A 11)) (gX6_0 _ _ _ _) rfl (by decide) k45 rfl rfl dX6_opens_108 ?_
    refine lv_iload_n hx hb dX6_opens_111 rfl (lv_at hl 1 rfl) ?_
    obtain ⟨c112, hf⟩ := ck_t hf
    refine va_zald (f := mm 12) hx hb hK hP 11 1 (gX6_11 _ _ _ _) rfl (inb_in c112) dX6_opens_112 ?_
    refine lv_istore_n (lv' := [(3, .int (mm 12 x1.toNatClampNeg)), (0, .ref (A 0)), (1, .int x1), (2, .int x2)]) hx hb dX6_opens_113 rfl hl (by decide) rfl (fun ls hl => ?_)
    refine lv_aload_n hx hb dX6_opens_114 rfl (lv_at hl 1 rfl) ?_
    refine ld_f S iX6 hK hP 0 12 (.ref (A 11)) (gX6_0 _ _ _ _) rfl (by decide) k45 rfl rfl dX6_opens_115 ?_
    refine lv_iload_n hx hb dX6_opens_118 rfl (lv_at hl 2 rfl) ?_
    refine lv_iload_n hx hb dX6_opens_119 rfl (lv_at hl 3 rfl) ?_
    refine lv_if_eq (tgt := 141) hx hb dX6_opens_120 (by decide) (fun c120 => ?_) (fun c120 => ?_)
    · have hf := if_t c120 hf
      exact B141 _ _ _ _ k23 hk23 hf H locs hP hD hS ls (lv_sub hl [1, 2, 0] rfl)
    · have hf := if_f c120 hf
      refine lv_iload_n hx hb dX6_opens_123 rfl (lv_at hl 0 rfl) ?_
      refine lv_if_ne (tgt := 137) hx hb dX6_opens_124 (by decide) (fun c124 => ?_) (fun c124 => ?_)
      · have hf := if_f c124 hf
        refine lv_iconst (v := 1) hx hb dX6_opens_137 (by decide) ?_
        refine lv_goto (tgt := 142) hx hb dX6_opens_138 (by decide) ?_
        exact B142 _ _ _ _ _ k23 hk23 hf H locs hP hD hS ls (lv_sub hl [1, 2, 0] rfl)
      · have hf := if_t c124 hf
        refine lv_aload_n hx hb dX6_opens_127 rfl (lv_at hl 1 rfl) ?_
        refine ld_f S iX6 hK hP 0 14 (.ref (A 13)) (gX6_0 _ _ _ _) rfl (by decide) k51 rfl rfl dX6_opens_128 ?_
        refine lv_iload_n hx hb dX6_opens_131 rfl (lv_at hl 2 rfl) ?_
        obtain ⟨c132, hf⟩ := ck_t hf
        refine va_iald (f := (aS mm 14 y1 y0) 14) hx hb hK hP 13 0 (gX6_13 _ _ _ _) rfl (inb_in c132) dX6_opens_132 ?_
        refine lv_iconst (v := 2) hx hb dX6_opens_133 (by decide) ?_
        refine lv_icmp_le (tgt := 141) hx hb dX6_opens_134 (by decide) (fun c134 => ?_) (fun c134 => ?_)
        · have hf := if_t c134 hf
          exact B141 _ _ _ _ k23 hk23 hf H locs hP hD hS ls (lv_sub hl [1, 2, 0] rfl)
        · have hf := if_f c134 hf
          refine lv_iconst (v := 1) hx hb dX6_opens_137 (by decide) ?_
          refine lv_goto (tgt := 142) hx hb dX6_opens_138 (by decide) ?_
          exact B142 _ _ _ _ _ k23 hk23 hf H locs hP hD hS ls (lv_sub hl [1, 2, 0] rfl)
  have B84 : ∀ (mm : St) (x1 : Int32) (y0 : Int32) (k23 : (St × Int32) → Option (St)) (hk23 : ∀ a23, k23 a23 = some res → Bk p l e ({ frames := 3, cells := 0, slots := 0, locals := 66 }) s m args below meth c Q A0 D 4 0 0 (wX6 cI cZ A (a23.1)) [(0, .ref (A 0)), (1, .int (a23.2))] 23 []), fX6_opens_J84 k23 mm x1 y0 = some res → Bk p l e ({ frames := 3, cells := 0, slots := 0, locals := 66 }) s m args below meth c Q A0 D 4 0 0 (wX6 cI cZ A mm) [(0, .ref (A 0)), (1, .int x1)] 84 [.int y0] := by
    intro mm x1 y0 k23 hk23 hf
    unfold fX6_opens_J84 at hf
    intro H locs hP hD hS ls hl
    refine lv_istore_n (lv' := [(2, .int y0), (0, .ref (A 0)), (1, .int x1)]) hx hb dX6_opens_84 rfl hl (by decide) rfl (fun ls hl => ?_)
    refine lv_aload_n hx hb dX6_opens_85 rfl (lv_at hl 1 rfl) ?_
    refine ld_f S iX6 hK hP 0 14 (.ref (A 13)) (gX6_0 _ _ _ _) rfl (by decide) k51 rfl rfl dX6_opens_86 ?_
    refine lv_iload_n hx hb dX6_opens_89 rfl (lv_at hl 2 rfl) ?_
    refine lv_iload_n hx hb dX6_opens_90 rfl (lv_at hl 0 rfl) ?_
    refine lv_if_eq (tgt := 105) hx hb dX6_opens_91 (by decide) (fun c91 => ?_) (fun c91 => ?_)
    · have hf := if_t c91 hf
      refine lv_iconst (v := 0) hx hb dX6_opens_105 (by decide) ?_
      exact B106 _ _ _ _ _ k23 hk23 hf H locs hP hD hS ls (lv_sub hl [1, 2, 0] rfl)
    · have hf := if_f c91 hf
      refine lv_aload_n hx hb dX6_opens_94 rfl (lv_at hl 1 rfl) ?_
      refine ld_f S iX6 hK hP 0 14 (.ref (A 13)) (gX6_0 _ _ _ _) rfl (by decide) k51 rfl rfl dX6_opens_95 ?_
      refine lv_iload_n hx hb dX6_opens_98 rfl (lv_at hl 2 rfl) ?_
      obtain ⟨c99, hf⟩ := ck_t hf
      refine va_iald (f := mm 14) hx hb hK hP 13 0 (gX6_13 _ _ _ _) rfl (inb_in c99) dX6_opens_99 ?_
      refine lv_iconst (v := 1) hx hb dX6_opens_100 (by decide) ?_
      refine lv_iadd hx hb dX6_opens_101 ?_
      refine lv_goto (tgt := 106) hx hb dX6_opens_102 (by decide) ?_
      exact B106 _ _ _ _ _ k23 hk23 hf H locs hP hD hS ls (lv_sub hl [1, 2, 0] rfl)
  have B23 : ∀ (mm : St) (x1 : Int32), fX6_opens_L23 mm x1 = some res → Bk p l e ({ frames := 3, cells := 0, slots := 0, locals := 66 }) s m args below meth c Q A0 D 4 0 0 (wX6 cI cZ A mm) [(0, .ref (A 0)), (1, .int x1)] 23 [] := by
    intro mm x1 hf
    refine loop_ind (step := (fun k a => fX6_opens_S23 k (a.1) (a.2))) (fun a => Bk p l e ({ frames := 3, cells := 0, slots := 0, locals := 66 }) s m args below meth c Q A0 D 4 0 0 (wX6 cI cZ A (a.1)) [(0, .ref (A 0)), (1, .int (a.2))] 23 []) ?_ _ _ hf
    clear hf
    intro k23 hk23 a hf
    obtain ⟨mm_, x1_⟩ := a
    clear mm x1
    obtain ⟨mm, e_⟩ : ∃ z, z = mm_ := ⟨_, rfl⟩
    subst e_
    obtain ⟨x1, e_⟩ : ∃ z, z = x1_ := ⟨_, rfl⟩
    subst e_
    have hf : fX6_opens_S23 k23 mm x1 = some res := hf
    show Bk p l e ({ frames := 3, cells := 0, slots := 0, locals := 66 }) s m args below meth c Q A0 D 4 0 0 (wX6 cI cZ A mm) [(0, .ref (A 0)), (1, .int x1)] 23 []
    unfold fX6_opens_S23 at hf
    intro H locs hP hD hS ls hl
    refine lv_iload_n hx hb dX6_opens_23 rfl (lv_at hl 1 rfl) ?_
    refine lv_bipush (v := 30) hx hb dX6_opens_24 (by decide) ?_
    refine lv_icmp_ge (tgt := 183) hx hb dX6_opens_26 (by decide) (fun c26 => ?_) (fun c26 => ?_)
    · have hf := if_t c26 hf
      exact B183 _ hf H locs hP hD hS ls (lv_sub hl [0] rfl)
    · have hf := if_f c26 hf
      refine lv_aload_n hx hb dX6_opens_29 rfl (lv_at hl 0 rfl) ?_
      refine ld_f S iX6 hK hP 0 13 (.ref (A 12)) (gX6_0 _ _ _ _) rfl (by decide) k48 rfl rfl dX6_opens_30 ?_
      refine lv_iload_n hx hb dX6_opens_33 rfl (lv_at hl 1 rfl) ?_
      refine lv_aload_n hx hb dX6_opens_34 rfl (lv_at hl 0 rfl) ?_
      refine lv_iload_n hx hb dX6_opens_35 rfl (lv_at hl 1 rfl) ?_
      obtain ⟨q36, h36, hf⟩ := bd_t hf
      refine cl_i (va_runV (As := [.int x1]) (rest := [.int x1, .ref (A 12)]) S (mX6_roleOf l D cI cZ A mm x1 H.size q36 h36) (cwV 1 hts gX6_opens_X6_roleOf rfl rfl rfl (by decide +kernel) ⟨Nat.le_of_ble_eq_true rfl, Nat.le_of_ble_eq_true rfl⟩) (mP_V (ci := 6) (Cut.self _ []) hP hD hK hG rfl (gX6_0 _ _ _ _)) rfl rfl hl.1 rfl (lv_room (Nat.le_of_ble_eq_true rfl)) dX6_opens_36 ⟨Nat.le_refl _, Nat.le_refl _⟩) (Cut.self _ _) hP hD hS hA (fun H locs hP hD hS => ?_)
      obtain ⟨c39, hf⟩ := ck_t hf
      refine st_i hx hb hK hP hD hS 12 0 (sX6_12 _ _ _ _ _ _) (gX6_12 _ _ _ _) rfl c39 dX6_opens_39 (fun H locs hP hD hS => ?_)
      refine lv_aload_n hx hb dX6_opens_40 rfl (lv_at hl 0 rfl) ?_
      refine ld_f S iX6 hK hP 0 3 (.ref (A 2)) (gX6_0 _ _ _ _) rfl (by decide) k17 rfl rfl dX6_opens_41 ?_
      refine lv_iload_n hx hb dX6_opens_44 rfl (lv_at hl 1 rfl) ?_
      obtain ⟨c45, hf⟩ := ck_t hf
      refine va_iald (f := mm 3) hx hb hK hP 2 0 (gX6_2 _ _ _ _) rfl (inb_in c45) dX6_opens_45 ?_
      refine lv_iconst (v := (-1)) hx hb dX6_opens_46 (by decide) ?_
      refine lv_icmp_eq (tgt := 177) hx hb dX6_opens_47 (by decide) (fun c47 => ?_) (fun c47 => ?_)
      · have hf := if_t c47 hf
        refine lv_iinc (v := x1 + 1) (lv' := [(1, .int (x1 + 1)), (0, .ref (A 0))]) hx hb dX6_opens_177 hl (k := 1) rfl rfl (by decide) rfl (fun ls hl => ?_)
        refine lv_goto (tgt := 23) hx hb dX6_opens_180 (by decide) ?_
        exact hk23 _ hf H locs hP hD hS ls (lv_sub hl [1, 0] rfl)
      · have hf := if_f c47 hf
        refine lv_aload_n hx hb dX6_opens_50 rfl (lv_at hl 0 rfl) ?_
        refine ld_f S iX6 hK hP 0 10 (.ref (A 9)) (gX6_0 _ _ _ _) rfl (by decide) k39 rfl rfl dX6_opens_51 ?_
        refine lv_iload_n hx hb dX6_opens_54 rfl (lv_at hl 1 rfl) ?_
        obtain ⟨c55, hf⟩ := ck_t hf
        refine va_zald (f := mm 10) hx hb hK hP 9 1 (gX6_9 _ _ _ _) rfl (inb_in c55) dX6_opens_55 ?_
        refine lv_if_ne (tgt := 177) hx hb dX6_opens_56 (by decide) (fun c56 => ?_) (fun c56 => ?_)
        · have hf := if_f c56 hf
          refine lv_iinc (v := x1 + 1) (lv' := [(1, .int (x1 + 1)), (0, .ref (A 0))]) hx hb dX6_opens_177 hl (k := 1) rfl rfl (by decide) rfl (fun ls hl => ?_)
          refine lv_goto (tgt := 23) hx hb dX6_opens_180 (by decide) ?_
          exact hk23 _ hf H locs hP hD hS ls (lv_sub hl [1, 0] rfl)
        · have hf := if_t c56 hf
          refine lv_aload_n hx hb dX6_opens_59 rfl (lv_at hl 0 rfl) ?_
          refine ld_f S iX6 hK hP 0 13 (.ref (A 12)) (gX6_0 _ _ _ _) rfl (by decide) k48 rfl rfl dX6_opens_60 ?_
          refine lv_iload_n hx hb dX6_opens_63 rfl (lv_at hl 1 rfl) ?_
          obtain ⟨c64, hf⟩ := ck_t hf
          refine va_iald (f := (aS mm 13 x1 q36) 13) hx hb hK hP 12 0 (gX6_12 _ _ _ _) rfl (inb_in c64) dX6_opens_64 ?_
          refine lv_iconst (v := 1) hx hb dX6_opens_65 (by decide) ?_
          refine lv_icmp_eq (tgt := 79) hx hb dX6_opens_66 (by decide) (fun c66 => ?_) (fun c66 => ?_)
          · have hf := if_t c66 hf
            refine lv_iconst (v := 1) hx hb dX6_opens_79 (by decide) ?_
            refine lv_goto (tgt := 84) hx hb dX6_opens_80 (by decide) ?_
            exact B84 _ _ _ k23 hk23 hf H locs hP hD hS ls (lv_sub hl [0, 1] rfl)
          · have hf := if_f c66 hf
            refine lv_aload_n hx hb dX6_opens_69 rfl (lv_at hl 0 rfl) ?_
            refine ld_f S iX6 hK hP 0 13 (.ref (A 12)) (gX6_0 _ _ _ _) rfl (by decide) k48 rfl rfl dX6_opens_70 ?_
            refine lv_iload_n hx hb dX6_opens_73 rfl (lv_at hl 1 rfl) ?_
            obtain ⟨c74, hf⟩ := ck_t hf
            refine va_iald (f := (aS mm 13 x1 q36) 13) hx hb hK hP 12 0 (gX6_12 _ _ _ _) rfl (inb_in c74) dX6_opens_74 ?_
            refine lv_iconst (v := 2) hx hb dX6_opens_75 (by decide) ?_
            refine lv_icmp_ne (tgt := 83) hx hb dX6_opens_76 (by decide) (fun c76 => ?_) (fun c76 => ?_)
            · have hf := if_f c76 hf
              refine lv_iconst (v := 0) hx hb dX6_opens_83 (by decide) ?_
              exact B84 _ _ _ k23 hk23 hf H locs hP hD hS ls (lv_sub hl [0, 1] rfl)
            · have hf := if_t c76 hf
              refine lv_iconst (v := 1) hx hb dX6_opens_79 (by decide) ?_
              refine lv_goto (tgt := 84) hx hb dX6_opens_80 (by decide) ?_
              exact B84 _ _ _ k23 hk23 hf H locs hP hD hS ls (lv_sub hl [0, 1] rfl)
  have B21 : ∀ (mm : St), fX6_opens_J21 mm = some res → Bk p l e ({ frames := 3, cells := 0, slots := 0, locals := 66 }) s m args below meth c Q A0 D 4 0 0 (wX6 cI cZ A mm) [(0, .ref (A 0))] 21 [] := by
    intro mm hf
    unfold fX6_opens_J21 at hf
    intro H locs hP hD hS ls hl
    refine lv_iconst (v := 0) hx hb dX6_opens_21 (by decide) ?_
    refine lv_istore_n (lv' := [(1, .int 0), (0, .ref (A 0))]) hx hb dX6_opens_22 rfl hl (by decide) rfl (fun ls hl => ?_)
    exact B23 _ _ hf H locs hP hD hS ls (lv_sub hl [1, 0] rfl)
  have B2 : ∀ (mm : St) (x1 : Int32), fX6_opens_L2 mm x1 = some res → Bk p l e ({ frames := 3, cells := 0, slots := 0, locals := 66 }) s m args below meth c Q A0 D 4 0 0 (wX6 cI cZ A mm) [(0, .ref (A 0)), (1, .int x1)] 2 [] := by
    intro mm x1 hf
    refine loop_ind (step := (fun k a => fX6_opens_S2 k (a.1) (a.2))) (fun a => Bk p l e ({ frames := 3, cells := 0, slots := 0, locals := 66 }) s m args below meth c Q A0 D 4 0 0 (wX6 cI cZ A (a.1)) [(0, .ref (A 0)), (1, .int (a.2))] 2 []) ?_ _ _ hf
    clear hf
    intro k2 hk2 a hf
    obtain ⟨mm_, x1_⟩ := a
    clear mm x1
    obtain ⟨mm, e_⟩ : ∃ z, z = mm_ := ⟨_, rfl⟩
    subst e_
    obtain ⟨x1, e_⟩ : ∃ z, z = x1_ := ⟨_, rfl⟩
    subst e_
    have hf : fX6_opens_S2 k2 mm x1 = some res := hf
    show Bk p l e ({ frames := 3, cells := 0, slots := 0, locals := 66 }) s m args below meth c Q A0 D 4 0 0 (wX6 cI cZ A mm) [(0, .ref (A 0)), (1, .int x1)] 2 []
    unfold fX6_opens_S2 at hf
    intro H locs hP hD hS ls hl
    refine lv_iload_n hx hb dX6_opens_2 rfl (lv_at hl 1 rfl) ?_
    refine lv_bipush (v := 6) hx hb dX6_opens_3 (by decide) ?_
    refine lv_icmp_ge (tgt := 21) hx hb dX6_opens_5 (by decide) (fun c5 => ?_) (fun c5 => ?_)
    · have hf := if_t c5 hf
      exact B21 _ hf H locs hP hD hS ls (lv_sub hl [0] rfl)
    · have hf := if_f c5 hf
      refine lv_aload_n hx hb dX6_opens_8 rfl (lv_at hl 0 rfl) ?_
      refine ld_f S iX6 hK hP 0 39 (.ref (A 37)) (gX6_0 _ _ _ _) rfl (by decide) k123 rfl rfl dX6_opens_9 ?_
      refine lv_iload_n hx hb dX6_opens_12 rfl (lv_at hl 1 rfl) ?_
      refine lv_iconst (v := 0) hx hb dX6_opens_13 (by decide) ?_
      obtain ⟨c14, hf⟩ := ck_t hf
      refine st_z hx hb hK hP hD hS 37 1 (sX6_37 _ _ _ _ _ _) (gX6_37 _ _ _ _) rfl c14 dX6_opens_14 (fun H locs hP hD hS => ?_)
      refine lv_iinc (v := x1 + 1) (lv' := [(1, .int (x1 + 1)), (0, .ref (A 0))]) hx hb dX6_opens_15 hl (k := 1) rfl rfl (by decide) rfl (fun ls hl => ?_)
      refine lv_goto (tgt := 2) hx hb dX6_opens_18 (by decide) ?_
      exact hk2 _ hf H locs hP hD hS ls (lv_sub hl [1, 0] rfl)
  intro H locs hP hD hS ls hl
  have hl : lv_has ls 4 [(0, .ref (A 0))] := hl
  unfold fX6_opens at hf
  refine lv_iconst (v := 0) hx hb dX6_opens_0 (by decide) ?_
  refine lv_istore_n (lv' := [(1, .int 0), (0, .ref (A 0))]) hx hb dX6_opens_1 rfl hl (by decide) rfl (fun ls hl => ?_)
  exact B2 _ _ hf H locs hP hD hS ls (lv_sub hl [1, 0] rfl)
set_option maxHeartbeats 4000000 in
set_option maxRecDepth 100000 in
theorem mX6_beats (l : Launch) (D : va_G) (cI cZ : ClassId) (A : Nat → Nat)  (mm : St) (sz : Nat) (res : St) (hf : fX6_beats mm = some res) : Met l yX6_beats wsX6_beats ({ frames := 4, cells := 0, slots := 0, locals := 100 }) (mP D (tysX cI cZ) [.ref (A 0)] (wX6 cI cZ A mm) sz) (mQv D (wX6 cI cZ A mm) (wX6 cI cZ A res) sz) 0 0 (va_A (wX6 cI cZ A mm) sz) := by
  refine mkM_v (cc := cX6_beats) (maxL := 3) (own := RX6) (by decide +kernel) rfl rfl (Nat.le_of_ble_eq_true rfl) ?_
  intro p e s m args below meth c A0 Q S hK hG hA hR
  obtain ⟨hx, hb, hml, hown, hts⟩ := id S
  have k193 := hts (.fieldLink RX6 193 "SwitchFloorModel" "now" "I") (by decide +kernel)
  have iX6 : ∀ w ∈ wsX60, w ∈ wsX6_beats := by decide +kernel
  have k54 := hts (.fieldLink RX6 54 "SwitchFloorModel" "floods" "[I") (by decide +kernel)
  have k39 := hts (.fieldLink RX6 39 "SwitchFloorModel" "isShut" "[Z") (by decide +kernel)
  have k42 := hts (.fieldLink RX6 42 "SwitchFloorModel" "stormEnd" "[I") (by decide +kernel)
  have k81 := hts (.fieldLink RX6 81 "SwitchFloorModel" "entries" "[I") (by decide +kernel)
  have k93 := hts (.fieldLink RX6 93 "SwitchFloorModel" "entryBeat" "[I") (by decide +kernel)
  have B107 : ∀ (mm : St) (x1 : Int32), fX6_beats_L107 mm x1 = some res → Bk p l e ({ frames := 4, cells := 0, slots := 0, locals := 100 }) s m args below meth c Q A0 D 3 0 0 (wX6 cI cZ A mm) [(0, .ref (A 0)), (1, .int x1)] 107 [] := by
    intro mm x1 hf
    refine loop_ind (step := (fun k a => fX6_beats_S107 k (a.1) (a.2))) (fun a => Bk p l e ({ frames := 4, cells := 0, slots := 0, locals := 100 }) s m args below meth c Q A0 D 3 0 0 (wX6 cI cZ A (a.1)) [(0, .ref (A 0)), (1, .int (a.2))] 107 []) ?_ _ _ hf
    clear hf
    intro k107 hk107 a hf
    obtain ⟨mm_, x1_⟩ := a
    clear mm x1
    obtain ⟨mm, e_⟩ : ∃ z, z = mm_ := ⟨_, rfl⟩
    subst e_
    obtain ⟨x1, e_⟩ : ∃ z, z = x1_ := ⟨_, rfl⟩
    subst e_
    have hf : fX6_beats_S107 k107 mm x1 = some res := hf
    show Bk p l e ({ frames := 4, cells := 0, slots := 0, locals := 100 }) s m args below meth c Q A0 D 3 0 0 (wX6 cI cZ A mm) [(0, .ref (A 0)), (1, .int x1)] 107 []
    unfold fX6_beats_S107 at hf
    intro H locs hP hD hS ls hl
    refine lv_iload_n hx hb dX6_beats_107 rfl (lv_at hl 1 rfl) ?_
    refine lv_bipush (v := 30) hx hb dX6_beats_108 (by decide) ?_
    refine lv_icmp_ge (tgt := 162) hx hb dX6_beats_110 (by decide) (fun c110 => ?_) (fun c110 => ?_)
    · have hf := if_t c110 hf
      exact hR _ ls H locs _ (congrArg (fun q => (wX6 cI cZ A q)) (Option.some.inj hf)) dX6_beats_162 hP hD hS
    · have hf := if_f c110 hf
      refine lv_aload_n hx hb dX6_beats_113 rfl (lv_at hl 0 rfl) ?_
      refine ld_f S iX6 hK hP 0 15 (.ref (A 14)) (gX6_0 _ _ _ _) rfl (by decide) k54 rfl rfl dX6_beats_114 ?_
      refine lv_iload_n hx hb dX6_beats_117 rfl (lv_at hl 1 rfl) ?_
      refine lv_iconst (v := 0) hx hb dX6_beats_118 (by decide) ?_
      obtain ⟨c119, hf⟩ := ck_t hf
      refine st_i hx hb hK hP hD hS 14 0 (sX6_14 _ _ _ _ _ _) (gX6_14 _ _ _ _) rfl c119 dX6_beats_119 (fun H locs hP hD hS => ?_)
      refine lv_aload_n hx hb dX6_beats_120 rfl (lv_at hl 0 rfl) ?_
      refine ld_f S iX6 hK hP 0 10 (.ref (A 9)) (gX6_0 _ _ _ _) rfl (by decide) k39 rfl rfl dX6_beats_121 ?_
      refine lv_iload_n hx hb dX6_beats_124 rfl (lv_at hl 1 rfl) ?_
      obtain ⟨c125, hf⟩ := ck_t hf
      refine va_zald (f := mm 10) hx hb hK hP 9 1 (gX6_9 _ _ _ _) rfl (inb_in c125) dX6_beats_125 ?_
      refine lv_if_eq (tgt := 156) hx hb dX6_beats_126 (by decide) (fun c126 => ?_) (fun c126 => ?_)
      · have hf := if_t c126 hf
        refine lv_iinc (v := x1 + 1) (lv' := [(1, .int (x1 + 1)), (0, .ref (A 0))]) hx hb dX6_beats_156 hl (k := 1) rfl rfl (by decide) rfl (fun ls hl => ?_)
        refine lv_goto (tgt := 107) hx hb dX6_beats_159 (by decide) ?_
        exact hk107 _ hf H locs hP hD hS ls (lv_sub hl [1, 0] rfl)
      · have hf := if_f c126 hf
        refine lv_aload_n hx hb dX6_beats_129 rfl (lv_at hl 0 rfl) ?_
        refine ld_f S iX6 hK hP 0 11 (.ref (A 10)) (gX6_0 _ _ _ _) rfl (by decide) k42 rfl rfl dX6_beats_130 ?_
        refine lv_iload_n hx hb dX6_beats_133 rfl (lv_at hl 1 rfl) ?_
        obtain ⟨c134, hf⟩ := ck_t hf
        refine va_iald (f := mm 11) hx hb hK hP 10 0 (gX6_10 _ _ _ _) rfl (inb_in c134) dX6_beats_134 ?_
        refine lv_if_le (tgt := 156) hx hb dX6_beats_135 (by decide) (fun c135 => ?_) (fun c135 => ?_)
        · have hf := if_t c135 hf
          refine lv_iinc (v := x1 + 1) (lv' := [(1, .int (x1 + 1)), (0, .ref (A 0))]) hx hb dX6_beats_156 hl (k := 1) rfl rfl (by decide) rfl (fun ls hl => ?_)
          refine lv_goto (tgt := 107) hx hb dX6_beats_159 (by decide) ?_
          exact hk107 _ hf H locs hP hD hS ls (lv_sub hl [1, 0] rfl)
        · have hf := if_f c135 hf
          refine lv_aload_n hx hb dX6_beats_138 rfl (lv_at hl 0 rfl) ?_
          refine ld_f S iX6 hK hP 0 11 (.ref (A 10)) (gX6_0 _ _ _ _) rfl (by decide) k42 rfl rfl dX6_beats_139 ?_
          refine lv_iload_n hx hb dX6_beats_142 rfl (lv_at hl 1 rfl) ?_
          obtain ⟨c143, hf⟩ := ck_t hf
          refine va_iald (f := mm 11) hx hb hK hP 10 0 (gX6_10 _ _ _ _) rfl (inb_in c143) dX6_beats_143 ?_
          refine lv_aload_n hx hb dX6_beats_144 rfl (lv_at hl 0 rfl) ?_
          refine ld_f S iX6 hK hP 0 0 (.int (mm 0 0)) (gX6_0 _ _ _ _) rfl (by decide) k193 rfl rfl dX6_beats_145 ?_
          refine lv_icmp_gt (tgt := 156) hx hb dX6_beats_148 (by decide) (fun c148 => ?_) (fun c148 => ?_)
          · have hf := if_t c148 hf
            refine lv_iinc (v := x1 + 1) (lv' := [(1, .int (x1 + 1)), (0, .ref (A 0))]) hx hb dX6_beats_156 hl (k := 1) rfl rfl (by decide) rfl (fun ls hl => ?_)
            refine lv_goto (tgt := 107) hx hb dX6_beats_159 (by decide) ?_
            exact hk107 _ hf H locs hP hD hS ls (lv_sub hl [1, 0] rfl)
          · have hf := if_f c148 hf
            refine lv_aload_n hx hb dX6_beats_151 rfl (lv_at hl 0 rfl) ?_
            refine lv_iload_n hx hb dX6_beats_152 rfl (lv_at hl 1 rfl) ?_
            obtain ⟨q153, h153, hf⟩ := bd_t hf
            refine cl_v (va_runV (As := [.int x1]) (rest := []) S (mX6_frees l D cI cZ A (aS mm 15 x1 0) x1 H.size q153 h153) (cwV 1 hts gX6_beats_X6_frees rfl rfl rfl (by decide +kernel) ⟨Nat.le_of_ble_eq_true rfl, Nat.le_of_ble_eq_true rfl⟩) (mP_V (ci := 6) (Cut.self _ []) hP hD hK hG rfl (gX6_0 _ _ _ _)) rfl rfl hl.1 rfl (lv_room (Nat.le_of_ble_eq_true rfl)) dX6_beats_153 ⟨Nat.le_refl _, Nat.le_refl _⟩) (Cut.self _ _) hP hD hS hA (fun H locs hP hD hS => ?_)
            refine lv_iinc (v := x1 + 1) (lv' := [(1, .int (x1 + 1)), (0, .ref (A 0))]) hx hb dX6_beats_156 hl (k := 1) rfl rfl (by decide) rfl (fun ls hl => ?_)
            refine lv_goto (tgt := 107) hx hb dX6_beats_159 (by decide) ?_
            exact hk107 _ hf H locs hP hD hS ls (lv_sub hl [1, 0] rfl)
  have B105 : ∀ (mm : St), fX6_beats_J105 mm = some res → Bk p l e ({ frames := 4, cells := 0, slots := 0, locals := 100 }) s m args below meth c Q A0 D 3 0 0 (wX6 cI cZ A mm) [(0, .ref (A 0))] 105 [] := by
    intro mm hf
    unfold fX6_beats_J105 at hf
    intro H locs hP hD hS ls hl
    refine lv_iconst (v := 0) hx hb dX6_beats_105 (by decide) ?_
    refine lv_istore_n (lv' := [(1, .int 0), (0, .ref (A 0))]) hx hb dX6_beats_106 rfl hl (by decide) rfl (fun ls hl => ?_)
    exact B107 _ _ hf H locs hP hD hS ls (lv_sub hl [1, 0] rfl)
  have B63 : ∀ (x1 : Int32) (k43 : (St × Int32) → Option (St)) (hk43 : ∀ a43, k43 a43 = some res → Bk p l e ({ frames := 4, cells := 0, slots := 0, locals := 100 }) s m args below meth c Q A0 D 3 0 0 (wX6 cI cZ A (a43.1)) [(0, .ref (A 0)), (1, .int (a43.2))] 43 []) (mm : St) (x2 : Int32), fX6_beats_L63 k43 x1 mm x2 = some res → Bk p l e ({ frames := 4, cells := 0, slots := 0, locals := 100 }) s m args below meth c Q A0 D 3 0 0 (wX6 cI cZ A mm) [(0, .ref (A 0)), (1, .int x1), (2, .int x2)] 63 [] := by
    intro x1 k43 hk43 mm x2 hf
    refine loop_ind (step := (fun k a => fX6_beats_S63 k43 k x1 (a.1) (a.2))) (fun a => Bk p l e ({ frames := 4, cells := 0, slots := 0, locals := 100 }) s m args below meth c Q A0 D 3 0 0 (wX6 cI cZ A (a.1)) [(0, .ref (A 0)), (1, .int x1), (2, .int (a.2))] 63 []) ?_ _ _ hf
    clear hf
    intro k63 hk63 a hf
    obtain ⟨mm_, x2_⟩ := a
    clear mm x2
    obtain ⟨mm, e_⟩ : ∃ z, z = mm_ := ⟨_, rfl⟩
    subst e_
    obtain ⟨x2, e_⟩ : ∃ z, z = x2_ := ⟨_, rfl⟩
    subst e_
    have hf : fX6_beats_S63 k43 k63 x1 mm x2 = some res := hf
    show Bk p l e ({ frames := 4, cells := 0, slots := 0, locals := 100 }) s m args below meth c Q A0 D 3 0 0 (wX6 cI cZ A mm) [(0, .ref (A 0)), (1, .int x1), (2, .int x2)] 63 []
    unfold fX6_beats_S63 at hf
    intro H locs hP hD hS ls hl
    refine lv_iload_n hx hb dX6_beats_63 rfl (lv_at hl 2 rfl) ?_
    refine lv_bipush (v := 8) hx hb dX6_beats_64 (by decide) ?_
    refine lv_iload_n hx hb dX6_beats_66 rfl (lv_at hl 1 rfl) ?_
    refine lv_imul hx hb dX6_beats_67 ?_
    refine lv_icmp_lt (tgt := 99) hx hb dX6_beats_68 (by decide) (fun c68 => ?_) (fun c68 => ?_)
    · have hf := if_t c68 hf
      refine lv_iinc (v := x1 + 1) (lv' := [(1, .int (x1 + 1)), (0, .ref (A 0)), (2, .int x2)]) hx hb dX6_beats_99 hl (k := 1) rfl rfl (by decide) rfl (fun ls hl => ?_)
      refine lv_goto (tgt := 43) hx hb dX6_beats_102 (by decide) ?_
      exact hk43 _ hf H locs hP hD hS ls (lv_sub hl [1, 0] rfl)
    · have hf := if_f c68 hf
      refine lv_aload_n hx hb dX6_beats_71 rfl (lv_at hl 0 rfl) ?_
      refine ld_f S iX6 hK hP 0 0 (.int (mm 0 0)) (gX6_0 _ _ _ _) rfl (by decide) k193 rfl rfl dX6_beats_72 ?_
      refine lv_aload_n hx hb dX6_beats_75 rfl (lv_at hl 0 rfl) ?_
      refine ld_f S iX6 hK hP 0 28 (.ref (A 27)) (gX6_0 _ _ _ _) rfl (by decide) k93 rfl rfl dX6_beats_76 ?_
      refine lv_iload_n hx hb dX6_beats_79 rfl (lv_at hl 2 rfl) ?_
      obtain ⟨c80, hf⟩ := ck_t hf
      refine va_iald (f := mm 28) hx hb hK hP 27 0 (gX6_27 _ _ _ _) rfl (inb_in c80) dX6_beats_80 ?_
      refine lv_isub hx hb dX6_beats_81 ?_
      refine lv_bipush (v := 10) hx hb dX6_beats_82 (by decide) ?_
      refine lv_icmp_lt (tgt := 93) hx hb dX6_beats_84 (by decide) (fun c84 => ?_) (fun c84 => ?_)
      · have hf := if_t c84 hf
        refine lv_iinc (v := x2 + (-1)) (lv' := [(2, .int (x2 + (-1))), (0, .ref (A 0)), (1, .int x1)]) hx hb dX6_beats_93 hl (k := 2) rfl rfl (by decide) rfl (fun ls hl => ?_)
        refine lv_goto (tgt := 63) hx hb dX6_beats_96 (by decide) ?_
        exact hk63 _ hf H locs hP hD hS ls (lv_sub hl [1, 2, 0] rfl)
      · have hf := if_f c84 hf
        refine lv_aload_n hx hb dX6_beats_87 rfl (lv_at hl 0 rfl) ?_
        refine lv_iload_n hx hb dX6_beats_88 rfl (lv_at hl 1 rfl) ?_
        refine lv_iload_n hx hb dX6_beats_89 rfl (lv_at hl 2 rfl) ?_
        obtain ⟨q90, h90, hf⟩ := bd_t hf
        refine cl_v (va_runV (As := [.int x1, .int x2]) (rest := []) S (mX6_drops l D cI cZ A mm x1 x2 H.size q90 h90) (cwV 2 hts gX6_beats_X6_drops rfl rfl rfl (by decide +kernel) ⟨Nat.le_of_ble_eq_true rfl, Nat.le_of_ble_eq_true rfl⟩) (mP_V (ci := 6) (Cut.self _ []) hP hD hK hG rfl (gX6_0 _ _ _ _)) rfl rfl hl.1 rfl (lv_room (Nat.le_of_ble_eq_true rfl)) dX6_beats_90 ⟨Nat.le_refl _, Nat.le_refl _⟩) (Cut.self _ _) hP hD hS hA (fun H locs hP hD hS => ?_)
        refine lv_iinc (v := x2 + (-1)) (lv' := [(2, .int (x2 + (-1))), (0, .ref (A 0)), (1, .int x1)]) hx hb dX6_beats_93 hl (k := 2) rfl rfl (by decide) rfl (fun ls hl => ?_)
        refine lv_goto (tgt := 63) hx hb dX6_beats_96 (by decide) ?_
        exact hk63 _ hf H locs hP hD hS ls (lv_sub hl [1, 2, 0] rfl)
  have B43 : ∀ (mm : St) (x1 : Int32), fX6_beats_L43 mm x1 = some res → Bk p l e ({ frames := 4, cells := 0, slots := 0, locals := 100 }) s m args below meth c Q A0 D 3 0 0 (wX6 cI cZ A mm) [(0, .ref (A 0)), (1, .int x1)] 43 [] := by
    intro mm x1 hf
    refine loop_ind (step := (fun k a => fX6_beats_S43 k (a.1) (a.2))) (fun a => Bk p l e ({ frames := 4, cells := 0, slots := 0, locals := 100 }) s m args below meth c Q A0 D 3 0 0 (wX6 cI cZ A (a.1)) [(0, .ref (A 0)), (1, .int (a.2))] 43 []) ?_ _ _ hf
    clear hf
    intro k43 hk43 a hf
    obtain ⟨mm_, x1_⟩ := a
    clear mm x1
    obtain ⟨mm, e_⟩ : ∃ z, z = mm_ := ⟨_, rfl⟩
    subst e_
    obtain ⟨x1, e_⟩ : ∃ z, z = x1_ := ⟨_, rfl⟩
    subst e_
    have hf : fX6_beats_S43 k43 mm x1 = some res := hf
    show Bk p l e ({ frames := 4, cells := 0, slots := 0, locals := 100 }) s m args below meth c Q A0 D 3 0 0 (wX6 cI cZ A mm) [(0, .ref (A 0)), (1, .int x1)] 43 []
    unfold fX6_beats_S43 at hf
    intro H locs hP hD hS ls hl
    refine lv_iload_n hx hb dX6_beats_43 rfl (lv_at hl 1 rfl) ?_
    refine lv_bipush (v := 6) hx hb dX6_beats_44 (by decide) ?_
    refine lv_icmp_ge (tgt := 105) hx hb dX6_beats_46 (by decide) (fun c46 => ?_) (fun c46 => ?_)
    · have hf := if_t c46 hf
      exact B105 _ hf H locs hP hD hS ls (lv_sub hl [0] rfl)
    · have hf := if_f c46 hf
      refine lv_bipush (v := 8) hx hb dX6_beats_49 (by decide) ?_
      refine lv_iload_n hx hb dX6_beats_51 rfl (lv_at hl 1 rfl) ?_
      refine lv_imul hx hb dX6_beats_52 ?_
      refine lv_aload_n hx hb dX6_beats_53 rfl (lv_at hl 0 rfl) ?_
      refine ld_f S iX6 hK hP 0 24 (.ref (A 23)) (gX6_0 _ _ _ _) rfl (by decide) k81 rfl rfl dX6_beats_54 ?_
      refine lv_iload_n hx hb dX6_beats_57 rfl (lv_at hl 1 rfl) ?_
      obtain ⟨c58, hf⟩ := ck_t hf
      refine va_iald (f := mm 24) hx hb hK hP 23 0 (gX6_23 _ _ _ _) rfl (inb_in c58) dX6_beats_58 ?_
      refine lv_iadd hx hb dX6_beats_59 ?_
      refine lv_iconst (v := 1) hx hb dX6_beats_60 (by decide) ?_
      refine lv_isub hx hb dX6_beats_61 ?_
      refine lv_istore_n (lv' := [(2, .int (((8 * x1) + (mm 24 x1.toNatClampNeg)) - 1)), (0, .ref (A 0)), (1, .int x1)]) hx hb dX6_beats_62 rfl hl (by decide) rfl (fun ls hl => ?_)
      exact B63 _ k43 hk43 _ _ hf H locs hP hD hS ls (lv_sub hl [1, 2, 0] rfl)
  have B37 : ∀ (mm : St), fX6_beats_J37 mm = some res → Bk p l e ({ frames := 4, cells := 0, slots := 0, locals := 100 }) s m args below meth c Q A0 D 3 0 0 (wX6 cI cZ A mm) [(0, .ref (A 0))] 37 [] := by
    intro mm hf
    unfold fX6_beats_J37 at hf
    intro H locs hP hD hS ls hl
    refine lv_aload_n hx hb dX6_beats_37 rfl (lv_at hl 0 rfl) ?_
    obtain ⟨q38, h38, hf⟩ := bd_t hf
    refine cl_v (va_runV (As := []) (rest := []) S (mX6_opens l D cI cZ A mm H.size q38 h38) (cwV 0 hts gX6_beats_X6_opens rfl rfl rfl (by decide +kernel) ⟨Nat.le_of_ble_eq_true rfl, Nat.le_of_ble_eq_true rfl⟩) (mP_V (ci := 6) (Cut.self _ []) hP hD hK hG rfl (gX6_0 _ _ _ _)) rfl rfl hl.1 rfl (lv_room (Nat.le_of_ble_eq_true rfl)) dX6_beats_38 ⟨Nat.le_refl _, Nat.le_refl _⟩) (Cut.self _ _) hP hD hS hA (fun H locs hP hD hS => ?_)
    refine lv_iconst (v := 0) hx hb dX6_beats_41 (by decide) ?_
    refine lv_istore_n (lv' := [(1, .int 0), (0, .ref (A 0))]) hx hb dX6_beats_42 rfl hl (by decide) rfl (fun ls hl => ?_)
    exact B43 _ _ hf H locs hP hD hS ls (lv_sub hl [1, 0] rfl)
  have B20 : ∀ (mm : St) (x1 : Int32), fX6_beats_L20 mm x1 = some res → Bk p l e ({ frames := 4, cells := 0, slots := 0, locals := 100 }) s m args below meth c Q A0 D 3 0 0 (wX6 cI cZ A mm) [(0, .ref (A 0)), (1, .int x1)] 20 [] := by
    intro mm x1 hf
    refine loop_ind (step := (fun k a => fX6_beats_S20 k (a.1) (a.2))) (fun a => Bk p l e ({ frames := 4, cells := 0, slots := 0, locals := 100 }) s m args below meth c Q A0 D 3 0 0 (wX6 cI cZ A (a.1)) [(0, .ref (A 0)), (1, .int (a.2))] 20 []) ?_ _ _ hf
    clear hf
    intro k20 hk20 a hf
    obtain ⟨mm_, x1_⟩ := a
    clear mm x1
    obtain ⟨mm, e_⟩ : ∃ z, z = mm_ := ⟨_, rfl⟩
    subst e_
    obtain ⟨x1, e_⟩ : ∃ z, z = x1_ := ⟨_, rfl⟩
    subst e_
    have hf : fX6_beats_S20 k20 mm x1 = some res := hf
    show Bk p l e ({ frames := 4, cells := 0, slots := 0, locals := 100 }) s m args below meth c Q A0 D 3 0 0 (wX6 cI cZ A mm) [(0, .ref (A 0)), (1, .int x1)] 20 []
    unfold fX6_beats_S20 at hf
    intro H locs hP hD hS ls hl
    refine lv_iload_n hx hb dX6_beats_20 rfl (lv_at hl 1 rfl) ?_
    refine lv_bipush (v := 6) hx hb dX6_beats_21 (by decide) ?_
    refine lv_icmp_ge (tgt := 37) hx hb dX6_beats_23 (by decide) (fun c23 => ?_) (fun c23 => ?_)
    · have hf := if_t c23 hf
      exact B37 _ hf H locs hP hD hS ls (lv_sub hl [0] rfl)
    · have hf := if_f c23 hf
      refine lv_aload_n hx hb dX6_beats_26 rfl (lv_at hl 0 rfl) ?_
      refine lv_iload_n hx hb dX6_beats_27 rfl (lv_at hl 1 rfl) ?_
      obtain ⟨q28, h28, hf⟩ := bd_t hf
      refine cl_v (va_runV (As := [.int x1]) (rest := []) S (mX6_holds l D cI cZ A mm x1 H.size q28 h28) (cwV 1 hts gX6_beats_X6_holds rfl rfl rfl (by decide +kernel) ⟨Nat.le_of_ble_eq_true rfl, Nat.le_of_ble_eq_true rfl⟩) (mP_V (ci := 6) (Cut.self _ []) hP hD hK hG rfl (gX6_0 _ _ _ _)) rfl rfl hl.1 rfl (lv_room (Nat.le_of_ble_eq_true rfl)) dX6_beats_28 ⟨Nat.le_refl _, Nat.le_refl _⟩) (Cut.self _ _) hP hD hS hA (fun H locs hP hD hS => ?_)
      refine lv_iinc (v := x1 + 1) (lv' := [(1, .int (x1 + 1)), (0, .ref (A 0))]) hx hb dX6_beats_31 hl (k := 1) rfl rfl (by decide) rfl (fun ls hl => ?_)
      refine lv_goto (tgt := 20) hx hb dX6_beats_34 (by decide) ?_
      exact hk20 _ hf H locs hP hD hS ls (lv_sub hl [1, 0] rfl)
  intro H locs hP hD hS ls hl
  have hl : lv_has ls 3 [(0, .ref (A 0))] := hl
  unfold fX6_beats at hf
  refine lv_aload_n hx hb dX6_beats_0 rfl (lv_at hl 0 rfl) ?_
  refine lv_dup hx hb dX6_beats_1 rfl ?_
  refine ld_f S iX6 hK hP 0 0 (.int (mm 0 0)) (gX6_0 _ _ _ _) rfl (by decide) k193 rfl rfl dX6_beats_2 ?_
  refine lv_iconst (v := 1) hx hb dX6_beats_5 (by decide) ?_
  refine lv_iadd hx hb dX6_beats_6 ?_
  refine st_f S iX6 tyX6 tyX6_ok nmX6 hK hP hD hS 0 0 (sX6_0_0 _ _ _ _ _) (gX6_0 _ _ _ _) rfl (by decide) k193 rfl rfl (by decide +kernel) rfl dX6_beats_7 (fun H locs hP hD hS => ?_)
  refine lv_aload_n hx hb dX6_beats_10 rfl (lv_at hl 0 rfl) ?_
  obtain ⟨q11, h11, hf⟩ := bd_t hf
  refine cl_v (va_runV (As := []) (rest := []) S (mX6_tells l D cI cZ A (iS mm 0 ((mm 0 0) + 1)) H.size q11 h11) (cwV 0 hts gX6_beats_X6_tells rfl rfl rfl (by decide +kernel) ⟨Nat.le_of_ble_eq_true rfl, Nat.le_of_ble_eq_true rfl⟩) (mP_V (ci := 6) (Cut.self _ []) hP hD hK hG rfl (gX6_0 _ _ _ _)) rfl rfl hl.1 rfl (lv_room (Nat.le_of_ble_eq_true rfl)) dX6_beats_11 ⟨Nat.le_refl _, Nat.le_refl _⟩) (Cut.self _ _) hP hD hS hA (fun H locs hP hD hS => ?_)
  refine lv_aload_n hx hb dX6_beats_14 rfl (lv_at hl 0 rfl) ?_
  obtain ⟨q15, h15, hf⟩ := bd_t hf
  refine cl_v (va_runV (As := []) (rest := []) S (mX6_guardsHouses l D cI cZ A q11 H.size q15 h15) (cwV 0 hts gX6_beats_X6_guardsHouses rfl rfl rfl (by decide +kernel) ⟨Nat.le_of_ble_eq_true rfl, Nat.le_of_ble_eq_true rfl⟩) (mP_V (ci := 6) (Cut.self _ []) hP hD hK hG rfl (gX6_0 _ _ _ _)) rfl rfl hl.1 rfl (lv_room (Nat.le_of_ble_eq_true rfl)) dX6_beats_15 ⟨Nat.le_refl _, Nat.le_refl _⟩) (Cut.self _ _) hP hD hS hA (fun H locs hP hD hS => ?_)
  refine lv_iconst (v := 0) hx hb dX6_beats_18 (by decide) ?_
  refine lv_istore_n (lv' := [(1, .int 0), (0, .ref (A 0))]) hx hb dX6_beats_19 rfl hl (by decide) rfl (fun ls hl => ?_)
  exact B20 _ _ hf H locs hP hD hS ls (lv_sub hl [1, 0] rfl)
set_option maxHeartbeats 4000000 in
set_option maxRecDepth 100000 in
theorem mX6_beat (l : Launch) (D : va_G) (cI cZ : ClassId) (A : Nat → Nat)  (mm : St) (x1 : Int32) (sz : Nat) (res : Int32 × St) (hf : fX6_beat mm x1 = some res) : Met l yX6_beat wsX6_beat ({ frames := 5, cells := 0, slots := 0, locals := 122 }) (mP D (tysX cI cZ) [.ref (A 0), .int x1] (wX6 cI cZ A mm) sz) (mQi D res.1 (wX6 cI cZ A mm) (wX6 cI cZ A (res.2)) sz) 0 0 (va_A (wX6 cI cZ A mm) sz) := by
  refine mkM_i (cc := cX6_beat) (maxL := 3) (own := RX6) (by decide +kernel) rfl rfl (Nat.le_of_ble_eq_true rfl) ?_
  intro p e s m args below meth c A0 Q S hK hG hA hR
  obtain ⟨hx, hb, hml, hown, hts⟩ := id S
  have k193 := hts (.fieldLink RX6 193 "SwitchFloorModel" "now" "I") (by decide +kernel)
  have iX6 : ∀ w ∈ wsX60, w ∈ wsX6_beat := by decide +kernel
  have B26 : ∀ (x1 : Int32) (mm : St) (x2 : Int32), fX6_beat_L26 x1 mm x2 = some res → Bk p l e ({ frames := 5, cells := 0, slots := 0, locals := 122 }) s m args below meth c Q A0 D 3 0 0 (wX6 cI cZ A mm) [(0, .ref (A 0)), (1, .int x1), (2, .int x2)] 26 [] := by
    intro x1 mm x2 hf
    refine loop_ind (step := (fun k a => fX6_beat_S26 k x1 (a.1) (a.2))) (fun a => Bk p l e ({ frames := 5, cells := 0, slots := 0, locals := 122 }) s m args below meth c Q A0 D 3 0 0 (wX6 cI cZ A (a.1)) [(0, .ref (A 0)), (1, .int x1), (2, .int (a.2))] 26 []) ?_ _ _ hf
    clear hf
    intro k26 hk26 a hf
    obtain ⟨mm_, x2_⟩ := a
    clear mm x2
    obtain ⟨mm, e_⟩ : ∃ z, z = mm_ := ⟨_, rfl⟩
    subst e_
    obtain ⟨x2, e_⟩ : ∃ z, z = x2_ := ⟨_, rfl⟩
    subst e_
    have hf : fX6_beat_S26 k26 x1 mm x2 = some res := hf
    show Bk p l e ({ frames := 5, cells := 0, slots := 0, locals := 122 }) s m args below meth c Q A0 D 3 0 0 (wX6 cI cZ A mm) [(0, .ref (A 0)), (1, .int x1), (2, .int x2)] 26 []
    unfold fX6_beat_S26 at hf
    intro H locs hP hD hS ls hl
    refine lv_iload_n hx hb dX6_beat_26 rfl (lv_at hl 2 rfl) ?_
    refine lv_iload_n hx hb dX6_beat_27 rfl (lv_at hl 1 rfl) ?_
    refine lv_icmp_ge (tgt := 41) hx hb dX6_beat_28 (by decide) (fun c28 => ?_) (fun c28 => ?_)
    · have hf := if_t c28 hf
      refine lv_aload_n hx hb dX6_beat_41 rfl (lv_at hl 0 rfl) ?_
      refine ld_f S iX6 hK hP 0 0 (.int (mm 0 0)) (gX6_0 _ _ _ _) rfl (by decide) k193 rfl rfl dX6_beat_42 ?_
      exact hR _ ls H locs _ _ (congrArg (fun q => q.1) (Option.some.inj hf)) (congrArg (fun q => (wX6 cI cZ A (q.2))) (Option.some.inj hf)) rfl dX6_beat_45 hP hD hS
    · have hf := if_f c28 hf
      refine lv_aload_n hx hb dX6_beat_31 rfl (lv_at hl 0 rfl) ?_
      obtain ⟨q32, h32, hf⟩ := bd_t hf
      refine cl_v (va_runV (As := []) (rest := []) S (mX6_beats l D cI cZ A mm H.size q32 h32) (cwV 0 hts gX6_beat_X6_beats rfl rfl rfl (by decide +kernel) ⟨Nat.le_of_ble_eq_true rfl, Nat.le_of_ble_eq_true rfl⟩) (mP_V (ci := 6) (Cut.self _ []) hP hD hK hG rfl (gX6_0 _ _ _ _)) rfl rfl hl.1 rfl (lv_room (Nat.le_of_ble_eq_true rfl)) dX6_beat_32 ⟨Nat.le_refl _, Nat.le_refl _⟩) (Cut.self _ _) hP hD hS hA (fun H locs hP hD hS => ?_)
      refine lv_iinc (v := x2 + 1) (lv' := [(2, .int (x2 + 1)), (0, .ref (A 0)), (1, .int x1)]) hx hb dX6_beat_35 hl (k := 2) rfl rfl (by decide) rfl (fun ls hl => ?_)
      refine lv_goto (tgt := 26) hx hb dX6_beat_38 (by decide) ?_
      exact hk26 _ hf H locs hP hD hS ls (lv_sub hl [1, 2, 0] rfl)
  have B16 : ∀ (mm : St) (x1 : Int32) (y0 : Int32), fX6_beat_J16 mm x1 y0 = some res → Bk p l e ({ frames := 5, cells := 0, slots := 0, locals := 122 }) s m args below meth c Q A0 D 3 0 0 (wX6 cI cZ A mm) [(0, .ref (A 0)), (1, .int x1)] 16 [.int y0, .ref (A 0)] := by
    intro mm x1 y0 hf
    unfold fX6_beat_J16 at hf
    intro H locs hP hD hS ls hl
    obtain ⟨q16, h16, hf⟩ := bd_t hf
    refine cl_i (va_runV (As := [.int y0]) (rest := []) S (mX6_fails l D cI cZ A mm y0 H.size q16 h16) (cwV 1 hts gX6_beat_X6_fails rfl rfl rfl (by decide +kernel) ⟨Nat.le_of_ble_eq_true rfl, Nat.le_of_ble_eq_true rfl⟩) (mP_V (ci := 6) (Cut.self _ []) hP hD hK hG rfl (gX6_0 _ _ _ _)) rfl rfl hl.1 rfl (lv_room (Nat.le_of_ble_eq_true rfl)) dX6_beat_16 ⟨Nat.le_refl _, Nat.le_refl _⟩) (Cut.self _ _) hP hD hS hA (fun H locs hP hD hS => ?_)
    refine lv_if_eq (tgt := 24) hx hb dX6_beat_19 (by decide) (fun c19 => ?_) (fun c19 => ?_)
    · have hf := if_t c19 hf
      refine lv_iconst (v := 0) hx hb dX6_beat_24 (by decide) ?_
      refine lv_istore_n (lv' := [(2, .int 0), (0, .ref (A 0)), (1, .int x1)]) hx hb dX6_beat_25 rfl hl (by decide) rfl (fun ls hl => ?_)
      exact B26 _ _ _ hf H locs hP hD hS ls (lv_sub hl [1, 2, 0] rfl)
    · have hf := if_f c19 hf
      refine lv_iconst (v := 0) hx hb dX6_beat_22 (by decide) ?_
      exact hR _ ls H locs _ _ (congrArg (fun q => q.1) (Option.some.inj hf)) (congrArg (fun q => (wX6 cI cZ A (q.2))) (Option.some.inj hf)) rfl dX6_beat_23 hP hD hS
  intro H locs hP hD hS ls hl
  have hl : lv_has ls 3 [(0, .ref (A 0)), (1, .int x1)] := hl
  unfold fX6_beat at hf
  refine lv_aload_n hx hb dX6_beat_0 rfl (lv_at hl 0 rfl) ?_
  refine lv_iload_n hx hb dX6_beat_1 rfl (lv_at hl 1 rfl) ?_
  refine lv_iconst (v := 1) hx hb dX6_beat_2 (by decide) ?_
  refine lv_bipush (v := 30) hx hb dX6_beat_3 (by decide) ?_
  obtain ⟨q5, h5, hf⟩ := bd_t hf
  refine cl_i (va_runS (As := [.int x1, .int 1, .int 30]) (rest := [.ref (A 0)]) S (mX6_isIn l D cI cZ x1 1 30 H.size q5 h5) (va_cwS 3 hts gX6_beat_X6_isIn rfl rfl rfl (by decide +kernel) ⟨Nat.le_of_ble_eq_true rfl, Nat.le_of_ble_eq_true rfl⟩) (mP_S (Cut.nil _) hP hD hK hG) rfl rfl hl.1 rfl (lv_room (Nat.le_of_ble_eq_true rfl)) dX6_beat_5 ⟨Nat.le_refl _, Nat.le_refl _⟩) (Cut.nil _) hP hD hS hA (fun H locs hP hD hS => ?_)
  refine lv_if_eq (tgt := 15) hx hb dX6_beat_8 (by decide) (fun c8 => ?_) (fun c8 => ?_)
  · have hf := if_t c8 hf
    refine lv_iconst (v := 1) hx hb dX6_beat_15 (by decide) ?_
    exact B16 _ _ _ hf H locs hP hD hS ls (lv_sub hl [0, 1] rfl)
  · have hf := if_f c8 hf
    refine lv_iconst (v := 0) hx hb dX6_beat_11 (by decide) ?_
    refine lv_goto (tgt := 16) hx hb dX6_beat_12 (by decide) ?_
    exact B16 _ _ _ hf H locs hP hD hS ls (lv_sub hl [0, 1] rfl)
set_option maxHeartbeats 4000000 in
set_option maxRecDepth 100000 in
theorem mX6_find (l : Launch) (D : va_G) (cI cZ : ClassId) (A : Nat → Nat)  (mm : St) (x1 : Int32) (x2 : Int32) (x3 : Int32) (sz : Nat) (res : Int32) (hf : fX6_find mm x1 x2 x3 = some res) : Met l yX6_find wsX6_find ({ frames := 0, cells := 0, slots := 0, locals := 0 }) (mP D (tysX cI cZ) [.ref (A 0), .int x1, .int x2, .int x3] (wX6 cI cZ A mm) sz) (mQi D res (wX6 cI cZ A mm) (wX6 cI cZ A mm) sz) 0 0 (va_A (wX6 cI cZ A mm) sz) := by
  refine mkM_i (cc := cX6_find) (maxL := 6) (own := RX6) (by decide +kernel) rfl rfl (Nat.le_of_ble_eq_true rfl) ?_
  intro p e s m args below meth c A0 Q S hK hG hA hR
  obtain ⟨hx, hb, hml, hown, hts⟩ := id S
  have k81 := hts (.fieldLink RX6 81 "SwitchFloorModel" "entries" "[I") (by decide +kernel)
  have iX6 : ∀ w ∈ wsX60, w ∈ wsX6_find := by decide +kernel
  have k84 := hts (.fieldLink RX6 84 "SwitchFloorModel" "entryLane" "[I") (by decide +kernel)
  have k87 := hts (.fieldLink RX6 87 "SwitchFloorModel" "entryHouse" "[I") (by decide +kernel)
  have B9 : ∀ (x1 : Int32) (x2 : Int32) (x3 : Int32) (x4 : Int32) (x5 : Int32), fX6_find_L9 mm x1 x2 x3 x4 x5 = some res → Bk p l e ({ frames := 0, cells := 0, slots := 0, locals := 0 }) s m args below meth c Q A0 D 6 0 0 (wX6 cI cZ A mm) [(0, .ref (A 0)), (1, .int x1), (2, .int x2), (3, .int x3), (4, .int x4), (5, .int x5)] 9 [] := by
    intro x1 x2 x3 x4 x5 hf
    refine loop_ind (step := (fun k a => fX6_find_S9 k mm x1 x2 x3 (a.1) (a.2))) (fun a => Bk p l e ({ frames := 0, cells := 0, slots := 0, locals := 0 }) s m args below meth c Q A0 D 6 0 0 (wX6 cI cZ A mm) [(0, .ref (A 0)), (1, .int x1), (2, .int x2), (3, .int x3), (4, .int (a.1)), (5, .int (a.2))] 9 []) ?_ _ _ hf
    clear hf
    intro k9 hk9 a hf
    obtain ⟨x4_, x5_⟩ := a
    clear x4 x5
    obtain ⟨x4, e_⟩ : ∃ z, z = x4_ := ⟨_, rfl⟩
    subst e_
    obtain ⟨x5, e_⟩ : ∃ z, z = x5_ := ⟨_, rfl⟩
    subst e_
    have hf : fX6_find_S9 k9 mm x1 x2 x3 x4 x5 = some res := hf
    show Bk p l e ({ frames := 0, cells := 0, slots := 0, locals := 0 }) s m args below meth c Q A0 D 6 0 0 (wX6 cI cZ A mm) [(0, .ref (A 0)), (1, .int x1), (2, .int x2), (3, .int x3), (4, .int x4), (5, .int x5)] 9 []
    unfold fX6_find_S9 at hf
    intro H locs hP hD hS ls hl
    refine lv_iload hx hb dX6_find_9 (lv_at hl 5 rfl) ?_
    refine lv_bipush (v := 8) hx hb dX6_find_11 (by decide) ?_
    refine lv_iload_n hx hb dX6_find_13 rfl (lv_at hl 1 rfl) ?_
    refine lv_imul hx hb dX6_find_14 ?_
    refine lv_aload_n hx hb dX6_find_15 rfl (lv_at hl 0 rfl) ?_
    refine ld_f S iX6 hK hP 0 24 (.ref (A 23)) (gX6_0 _ _ _ _) rfl (by decide) k81 rfl rfl dX6_find_16 ?_
    refine lv_iload_n hx hb dX6_find_19 rfl (lv_at hl 1 rfl) ?_
    obtain ⟨c20, hf⟩ := ck_t hf
    refine va_iald (f := mm 24) hx hb hK hP 23 0 (gX6_23 _ _ _ _) rfl (inb_in c20) dX6_find_20 ?_
    refine lv_iadd hx hb dX6_find_21 ?_
    refine lv_icmp_ge (tgt := 62) hx hb dX6_find_22 (by decide) (fun c22 => ?_) (fun c22 => ?_)
    · have hf := if_t c22 hf
      refine lv_iload hx hb dX6_find_62 (lv_at hl 4 rfl) ?_
      exact hR _ ls H locs _ _ (congrArg (fun q => q) (Option.some.inj hf)) rfl rfl dX6_find_64 hP hD hS
    · have hf := if_f c22 hf
      refine lv_aload_n hx hb dX6_find_25 rfl (lv_at hl 0 rfl) ?_
      refine ld_f S iX6 hK hP 0 25 (.ref (A 24)) (gX6_0 _ _ _ _) rfl (by decide) k84 rfl rfl dX6_find_26 ?_
      refine lv_iload hx hb dX6_find_29 (lv_at hl 5 rfl) ?_
      obtain ⟨c31, hf⟩ := ck_t hf
      refine va_iald (f := mm 25) hx hb hK hP 24 0 (gX6_24 _ _ _ _) rfl (inb_in c31) dX6_find_31 ?_
      refine lv_iload_n hx hb dX6_find_32 rfl (lv_at hl 2 rfl) ?_
      refine lv_icmp_ne (tgt := 52) hx hb dX6_find_33 (by decide) (fun c33 => ?_) (fun c33 => ?_)
      · have hf := if_f c33 hf
        refine lv_iload hx hb dX6_find_52 (lv_at hl 4 rfl) ?_
        refine lv_istore (lv' := [(4, .int x4), (0, .ref (A 0)), (1, .int x1), (2, .int x2), (3, .int x3), (5, .int x5)]) hx hb dX6_find_54 hl (by decide) rfl (fun ls hl => ?_)
        refine lv_iinc (v := x5 + 1) (lv' := [(5, .int (x5 + 1)), (4, .int x4), (0, .ref (A 0)), (1, .int x1), (2, .int x2), (3, .int x3)]) hx hb dX6_find_56 hl (k := 5) rfl rfl (by decide) rfl (fun ls hl => ?_)
        refine lv_goto (tgt := 9) hx hb dX6_find_59 (by decide) ?_
        exact hk9 _ hf H locs hP hD hS ls (lv_sub hl [2, 3, 4, 5, 1, 0] rfl)
      · have hf := if_t c33 hf
        refine lv_aload_n hx hb dX6_find_36 rfl (lv_at hl 0 rfl) ?_
        refine ld_f S iX6 hK hP 0 26 (.ref (A 25)) (gX6_0 _ _ _ _) rfl (by decide) k87 rfl rfl dX6_find_37 ?_
        refine lv_iload hx hb dX6_find_40 (lv_at hl 5 rfl) ?_
        obtain ⟨c42, hf⟩ := ck_t hf
        refine va_iald (f := mm 26) hx hb hK hP 25 0 (gX6_25 _ _ _ _) rfl (inb_in c42) dX6_find_42 ?_
        refine lv_iload_n hx hb dX6_find_43 rfl (lv_at hl 3 rfl) ?_
        refine lv_icmp_ne (tgt := 52) hx hb dX6_find_44 (by decide) (fun c44 => ?_) (fun c44 => ?_)
        · have hf := if_f c44 hf
          refine lv_iload hx hb dX6_find_52 (lv_at hl 4 rfl) ?_
          refine lv_istore (lv' := [(4, .int x4), (0, .ref (A 0)), (1, .int x1), (2, .int x2), (3, .int x3), (5, .int x5)]) hx hb dX6_find_54 hl (by decide) rfl (fun ls hl => ?_)
          refine lv_iinc (v := x5 + 1) (lv' := [(5, .int (x5 + 1)), (4, .int x4), (0, .ref (A 0)), (1, .int x1), (2, .int x2), (3, .int x3)]) hx hb dX6_find_56 hl (k := 5) rfl rfl (by decide) rfl (fun ls hl => ?_)
          refine lv_goto (tgt := 9) hx hb dX6_find_59 (by decide) ?_
          exact hk9 _ hf H locs hP hD hS ls (lv_sub hl [2, 3, 4, 5, 1, 0] rfl)
        · have hf := if_t c44 hf
          refine lv_iload hx hb dX6_find_47 (lv_at hl 5 rfl) ?_
          refine lv_goto (tgt := 54) hx hb dX6_find_49 (by decide) ?_
          refine lv_istore (lv' := [(4, .int x5), (0, .ref (A 0)), (1, .int x1), (2, .int x2), (3, .int x3), (5, .int x5)]) hx hb dX6_find_54 hl (by decide) rfl (fun ls hl => ?_)
          refine lv_iinc (v := x5 + 1) (lv' := [(5, .int (x5 + 1)), (4, .int x5), (0, .ref (A 0)), (1, .int x1), (2, .int x2), (3, .int x3)]) hx hb dX6_find_56 hl (k := 5) rfl rfl (by decide) rfl (fun ls hl => ?_)
          refine lv_goto (tgt := 9) hx hb dX6_find_59 (by decide) ?_
          exact hk9 _ hf H locs hP hD hS ls (lv_sub hl [2, 3, 4, 5, 1, 0] rfl)
  intro H locs hP hD hS ls hl
  have hl : lv_has ls 6 [(0, .ref (A 0)), (1, .int x1), (2, .int x2), (3, .int x3)] := hl
  unfold fX6_find at hf
  refine lv_iconst (v := (-1)) hx hb dX6_find_0 (by decide) ?_
  refine lv_istore (lv' := [(4, .int (-1)), (0, .ref (A 0)), (1, .int x1), (2, .int x2), (3, .int x3)]) hx hb dX6_find_1 hl (by decide) rfl (fun ls hl => ?_)
  refine lv_bipush (v := 8) hx hb dX6_find_3 (by decide) ?_
  refine lv_iload_n hx hb dX6_find_5 rfl (lv_at hl 2 rfl) ?_
  refine lv_imul hx hb dX6_find_6 ?_
  refine lv_istore (lv' := [(5, .int (8 * x1)), (4, .int (-1)), (0, .ref (A 0)), (1, .int x1), (2, .int x2), (3, .int x3)]) hx hb dX6_find_7 hl (by decide) rfl (fun ls hl => ?_)
  exact B9 _ _ _ _ _ hf H locs hP hD hS ls (lv_sub hl [2, 3, 4, 5, 1, 0] rfl)
set_option maxHeartbeats 4000000 in
set_option maxRecDepth 100000 in
theorem mX6_hears (l : Launch) (D : va_G) (cI cZ : ClassId) (A : Nat → Nat)  (mm : St) (x1 : Int32) (x2 : Int32) (x3 : Int32) (sz : Nat) (res : St) (hf : fX6_hears mm x1 x2 x3 = some res) : Met l yX6_hears wsX6_hears ({ frames := 1, cells := 0, slots := 0, locals := 25 }) (mP D (tysX cI cZ) [.ref (A 0), .int x1, .int x2, .int x3] (wX6 cI cZ A mm) sz) (mQv D (wX6 cI cZ A mm) (wX6 cI cZ A res) sz) 0 0 (va_A (wX6 cI cZ A mm) sz) := by
  refine mkM_v (cc := cX6_hears) (maxL := 6) (own := RX6) (by decide +kernel) rfl rfl (Nat.le_of_ble_eq_true rfl) ?_
  intro p e s m args below meth c A0 Q S hK hG hA hR
  obtain ⟨hx, hb, hml, hown, hts⟩ := id S
  have k84 := hts (.fieldLink RX6 84 "SwitchFloorModel" "entryLane" "[I") (by decide +kernel)
  have iX6 : ∀ w ∈ wsX60, w ∈ wsX6_hears := by decide +kernel
  have k87 := hts (.fieldLink RX6 87 "SwitchFloorModel" "entryHouse" "[I") (by decide +kernel)
  have k90 := hts (.fieldLink RX6 90 "SwitchFloorModel" "entryPort" "[I") (by decide +kernel)
  have k93 := hts (.fieldLink RX6 93 "SwitchFloorModel" "entryBeat" "[I") (by decide +kernel)
  have k193 := hts (.fieldLink RX6 193 "SwitchFloorModel" "now" "I") (by decide +kernel)
  have k81 := hts (.fieldLink RX6 81 "SwitchFloorModel" "entries" "[I") (by decide +kernel)
  have B59 : ∀ (mm : St) (x1 : Int32) (x2 : Int32) (x3 : Int32) (x5 : Int32), fX6_hears_J59 mm x1 x2 x3 x5 = some res → Bk p l e ({ frames := 1, cells := 0, slots := 0, locals := 25 }) s m args below meth c Q A0 D 6 0 0 (wX6 cI cZ A mm) [(0, .ref (A 0)), (1, .int x1), (2, .int x2), (3, .int x3), (5, .int x5)] 59 [] := by
    intro mm x1 x2 x3 x5 hf
    unfold fX6_hears_J59 at hf
    intro H locs hP hD hS ls hl
    refine lv_iload hx hb dX6_hears_59 (lv_at hl 4 rfl) ?_
    refine lv_iconst (v := (-1)) hx hb dX6_hears_61 (by decide) ?_
    refine lv_icmp_eq (tgt := 102) hx hb dX6_hears_62 (by decide) (fun c62 => ?_) (fun c62 => ?_)
    · have hf := if_t c62 hf
      exact hR _ ls H locs _ (congrArg (fun q => (wX6 cI cZ A q)) (Option.some.inj hf)) dX6_hears_102 hP hD hS
    · have hf := if_f c62 hf
      refine lv_aload_n hx hb dX6_hears_65 rfl (lv_at hl 0 rfl) ?_
      refine ld_f S iX6 hK hP 0 25 (.ref (A 24)) (gX6_0 _ _ _ _) rfl (by decide) k84 rfl rfl dX6_hears_66 ?_
      refine lv_iload hx hb dX6_hears_69 (lv_at hl 4 rfl) ?_
      refine lv_iload_n hx hb dX6_hears_71 rfl (lv_at hl 2 rfl) ?_
      obtain ⟨c72, hf⟩ := ck_t hf
      refine st_i hx hb hK hP hD hS 24 0 (sX6_24 _ _ _ _ _ _) (gX6_24 _ _ _ _) rfl c72 dX6_hears_72 (fun H locs hP hD hS => ?_)
      refine lv_aload_n hx hb dX6_hears_73 rfl (lv_at hl 0 rfl) ?_
      refine ld_f S iX6 hK hP 0 26 (.ref (A 25)) (gX6_0 _ _ _ _) rfl (by decide) k87 rfl rfl dX6_hears_74 ?_
      refine lv_iload hx hb dX6_hears_77 (lv_at hl 4 rfl) ?_
      refine lv_iload_n hx hb dX6_hears_79 rfl (lv_at hl 3 rfl) ?_
      obtain ⟨c80, hf⟩ := ck_t hf
      refine st_i hx hb hK hP hD hS 25 0 (sX6_25 _ _ _ _ _ _) (gX6_25 _ _ _ _) rfl c80 dX6_hears_80 (fun H locs hP hD hS => ?_)
      refine lv_aload_n hx hb dX6_hears_81 rfl (lv_at hl 0 rfl) ?_
      refine ld_f S iX6 hK hP 0 27 (.ref (A 26)) (gX6_0 _ _ _ _) rfl (by decide) k90 rfl rfl dX6_hears_82 ?_
      refine lv_iload hx hb dX6_hears_85 (lv_at hl 4 rfl) ?_
      refine lv_iload_n hx hb dX6_hears_87 rfl (lv_at hl 1 rfl) ?_
      refine lv_iconst (v := 5) hx hb dX6_hears_88 (by decide) ?_
      refine lv_irem hx hb dX6_hears_89 (by decide) ?_
      obtain ⟨c90, hf⟩ := ck_t hf
      refine st_i hx hb hK hP hD hS 26 0 (sX6_26 _ _ _ _ _ _) (gX6_26 _ _ _ _) rfl c90 dX6_hears_90 (fun H locs hP hD hS => ?_)
      refine lv_aload_n hx hb dX6_hears_91 rfl (lv_at hl 0 rfl) ?_
      refine ld_f S iX6 hK hP 0 28 (.ref (A 27)) (gX6_0 _ _ _ _) rfl (by decide) k93 rfl rfl dX6_hears_92 ?_
      refine lv_iload hx hb dX6_hears_95 (lv_at hl 4 rfl) ?_
      refine lv_aload_n hx hb dX6_hears_97 rfl (lv_at hl 0 rfl) ?_
      refine ld_f S iX6 hK hP 0 0 (.int (mm 0 0)) (gX6_0 _ _ _ _) rfl (by decide) k193 rfl rfl dX6_hears_98 ?_
      obtain ⟨c101, hf⟩ := ck_t hf
      refine st_i hx hb hK hP hD hS 27 0 (sX6_27 _ _ _ _ _ _) (gX6_27 _ _ _ _) rfl c101 dX6_hears_101 (fun H locs hP hD hS => ?_)
      exact hR _ ls H locs _ (congrArg (fun q => (wX6 cI cZ A q)) (Option.some.inj hf)) dX6_hears_102 hP hD hS
  intro H locs hP hD hS ls hl
  have hl : lv_has ls 6 [(0, .ref (A 0)), (1, .int x1), (2, .int x2), (3, .int x3)] := hl
  unfold fX6_hears at hf
  refine lv_iload_n hx hb dX6_hears_0 rfl (lv_at hl 1 rfl) ?_
  refine lv_iconst (v := 5) hx hb dX6_hears_1 (by decide) ?_
  refine lv_idiv hx hb dX6_hears_2 (by decide) ?_
  refine lv_istore (lv' := [(4, .int (x1 / 5)), (0, .ref (A 0)), (1, .int x1), (2, .int x2), (3, .int x3)]) hx hb dX6_hears_3 hl (by decide) rfl (fun ls hl => ?_)
  refine lv_aload_n hx hb dX6_hears_5 rfl (lv_at hl 1 rfl) ?_
  refine lv_iload hx hb dX6_hears_6 (lv_at hl 0 rfl) ?_
  refine lv_iload_n hx hb dX6_hears_8 rfl (lv_at hl 3 rfl) ?_
  refine lv_iload_n hx hb dX6_hears_9 rfl (lv_at hl 4 rfl) ?_
  obtain ⟨q10, h10, hf⟩ := bd_t hf
  refine cl_i (va_runV (As := [.int (x1 / 5), .int x2, .int x3]) (rest := []) S (mX6_find l D cI cZ A mm (x1 / 5) x2 x3 H.size q10 h10) (cwV 3 hts gX6_hears_X6_find rfl rfl rfl (by decide +kernel) ⟨Nat.le_of_ble_eq_true rfl, Nat.le_of_ble_eq_true rfl⟩) (mP_V (ci := 6) (Cut.self _ []) hP hD hK hG rfl (gX6_0 _ _ _ _)) rfl rfl hl.1 rfl (lv_room (Nat.le_of_ble_eq_true rfl)) dX6_hears_10 ⟨Nat.le_refl _, Nat.le_refl _⟩) (Cut.self _ _) hP hD hS hA (fun H locs hP hD hS => ?_)
  refine lv_istore (lv' := [(5, .int q10), (4, .int (x1 / 5)), (0, .ref (A 0)), (1, .int x1), (2, .int x2), (3, .int x3)]) hx hb dX6_hears_13 hl (by decide) rfl (fun ls hl => ?_)
  refine lv_iload hx hb dX6_hears_15 (lv_at hl 0 rfl) ?_
  refine lv_iconst (v := (-1)) hx hb dX6_hears_17 (by decide) ?_
  refine lv_icmp_ne (tgt := 59) hx hb dX6_hears_18 (by decide) (fun c18 => ?_) (fun c18 => ?_)
  · have hf := if_f c18 hf
    exact B59 _ _ _ _ _ hf H locs hP hD hS ls (lv_sub hl [2, 3, 4, 5, 0] rfl)
  · have hf := if_t c18 hf
    refine lv_aload_n hx hb dX6_hears_21 rfl (lv_at hl 2 rfl) ?_
    refine ld_f S iX6 hK hP 0 24 (.ref (A 23)) (gX6_0 _ _ _ _) rfl (by decide) k81 rfl rfl dX6_hears_22 ?_
    refine lv_iload hx hb dX6_hears_25 (lv_at hl 1 rfl) ?_
    obtain ⟨c27, hf⟩ := ck_t hf
    refine va_iald (f := mm 24) hx hb hK hP 23 0 (gX6_23 _ _ _ _) rfl (inb_in c27) dX6_hears_27 ?_
    refine lv_bipush (v := 8) hx hb dX6_hears_28 (by decide) ?_
    refine lv_icmp_ge (tgt := 59) hx hb dX6_hears_30 (by decide) (fun c30 => ?_) (fun c30 => ?_)
    · have hf := if_t c30 hf
      exact B59 _ _ _ _ _ hf H locs hP hD hS ls (lv_sub hl [2, 3, 4, 5, 0] rfl)
    · have hf := if_f c30 hf
      refine lv_bipush (v := 8) hx hb dX6_hears_33 (by decide) ?_
      refine lv_iload hx hb dX6_hears_35 (lv_at hl 1 rfl) ?_
      refine lv_imul hx hb dX6_hears_37 ?_
      refine lv_aload_n hx hb dX6_hears_38 rfl (lv_at hl 2 rfl) ?_
      refine ld_f S iX6 hK hP 0 24 (.ref (A 23)) (gX6_0 _ _ _ _) rfl (by decide) k81 rfl rfl dX6_hears_39 ?_
      refine lv_iload hx hb dX6_hears_42 (lv_at hl 1 rfl) ?_
      obtain ⟨c44, hf⟩ := ck_t hf
      refine va_iald (f := mm 24) hx hb hK hP 23 0 (gX6_23 _ _ _ _) rfl (inb_in c44) dX6_hears_44 ?_
      refine lv_iadd hx hb dX6_hears_45 ?_
      refine lv_istore (lv' := [(5, .int ((8 * (x1 / 5)) + (mm 24 (x1 / 5).toNatClampNeg))), (4, .int (x1 / 5)), (0, .ref (A 0)), (1, .int x1), (2, .int x2), (3, .int x3)]) hx hb dX6_hears_46 hl (by decide) rfl (fun ls hl => ?_)
      refine lv_aload_n hx hb dX6_hears_48 rfl (lv_at hl 2 rfl) ?_
      refine ld_f S iX6 hK hP 0 24 (.ref (A 23)) (gX6_0 _ _ _ _) rfl (by decide) k81 rfl rfl dX6_hears_49 ?_
      refine lv_iload hx hb dX6_hears_52 (lv_at hl 1 rfl) ?_
      refine lv_dup2_11 hx hb dX6_hears_54 rfl rfl ?_
      obtain ⟨c55, hf⟩ := ck_t hf
      refine va_iald (f := mm 24) hx hb hK hP 23 0 (gX6_23 _ _ _ _) rfl (inb_in c55) dX6_hears_55 ?_
      refine lv_iconst (v := 1) hx hb dX6_hears_56 (by decide) ?_
      refine lv_iadd hx hb dX6_hears_57 ?_
      obtain ⟨c58, hf⟩ := ck_t hf
      refine st_i hx hb hK hP hD hS 23 0 (sX6_23 _ _ _ _ _ _) (gX6_23 _ _ _ _) rfl c58 dX6_hears_58 (fun H locs hP hD hS => ?_)
      exact B59 _ _ _ _ _ hf H locs hP hD hS ls (lv_sub hl [2, 3, 4, 5, 0] rfl)
set_option maxHeartbeats 4000000 in
set_option maxRecDepth 100000 in
theorem mX6_laneOf (l : Launch) (D : va_G) (cI cZ : ClassId) (A : Nat → Nat)  (mm : St) (x1 : Int32) (x2 : Int32) (sz : Nat) (res : Int32) (hf : fX6_laneOf mm x1 x2 = some res) : Met l yX6_laneOf wsX6_laneOf ({ frames := 0, cells := 0, slots := 0, locals := 0 }) (mP D (tysX cI cZ) [.ref (A 0), .int x1, .int x2] (wX6 cI cZ A mm) sz) (mQi D res (wX6 cI cZ A mm) (wX6 cI cZ A mm) sz) 0 0 (va_A (wX6 cI cZ A mm) sz) := by
  refine mkM_i (cc := cX6_laneOf) (maxL := 4) (own := RX6) (by decide +kernel) rfl rfl (Nat.le_of_ble_eq_true rfl) ?_
  intro p e s m args below meth c A0 Q S hK hG hA hR
  obtain ⟨hx, hb, hml, hown, hts⟩ := id S
  have k45 := hts (.fieldLink RX6 45 "SwitchFloorModel" "isOpen" "[Z") (by decide +kernel)
  have iX6 : ∀ w ∈ wsX60, w ∈ wsX6_laneOf := by decide +kernel
  have k29 := hts (.fieldLink RX6 29 "SwitchFloorModel" "isTrunk" "[Z") (by decide +kernel)
  have k33 := hts (.fieldLink RX6 33 "SwitchFloorModel" "lanes" "[I") (by decide +kernel)
  have k36 := hts (.fieldLink RX6 36 "SwitchFloorModel" "lane" "[I") (by decide +kernel)
  have B59 : ∀ (x1 : Int32) (y0 : Int32), fX6_laneOf_J59 mm x1 y0 = some res → Bk p l e ({ frames := 0, cells := 0, slots := 0, locals := 0 }) s m args below meth c Q A0 D 4 0 0 (wX6 cI cZ A mm) [(0, .ref (A 0)), (1, .int x1)] 59 [.int y0] := by
    intro x1 y0 hf
    unfold fX6_laneOf_J59 at hf
    intro H locs hP hD hS ls hl
    refine lv_istore_n (lv' := [(3, .int y0), (0, .ref (A 0)), (1, .int x1)]) hx hb dX6_laneOf_59 rfl hl (by decide) rfl (fun ls hl => ?_)
    refine lv_aload_n hx hb dX6_laneOf_60 rfl (lv_at hl 1 rfl) ?_
    refine ld_f S iX6 hK hP 0 8 (.ref (A 7)) (gX6_0 _ _ _ _) rfl (by decide) k33 rfl rfl dX6_laneOf_61 ?_
    refine lv_iload_n hx hb dX6_laneOf_64 rfl (lv_at hl 2 rfl) ?_
    obtain ⟨c65, hf⟩ := ck_t hf
    refine va_iald (f := mm 8) hx hb hK hP 7 0 (gX6_7 _ _ _ _) rfl (inb_in c65) dX6_laneOf_65 ?_
    refine lv_iload_n hx hb dX6_laneOf_66 rfl (lv_at hl 0 rfl) ?_
    refine lv_iconst (v := 1) hx hb dX6_laneOf_67 (by decide) ?_
    refine lv_isub hx hb dX6_laneOf_68 ?_
    refine lv_ishr hx hb dX6_laneOf_69 ?_
    refine lv_iconst (v := 1) hx hb dX6_laneOf_70 (by decide) ?_
    refine lv_iand hx hb dX6_laneOf_71 ?_
    refine lv_iconst (v := 1) hx hb dX6_laneOf_72 (by decide) ?_
    refine lv_icmp_ne (tgt := 80) hx hb dX6_laneOf_73 (by decide) (fun c73 => ?_) (fun c73 => ?_)
    · have hf := if_f c73 hf
      refine lv_iconst (v := 0) hx hb dX6_laneOf_80 (by decide) ?_
      exact hR _ ls H locs _ _ (congrArg (fun q => q) (Option.some.inj hf)) rfl rfl dX6_laneOf_81 hP hD hS
    · have hf := if_t c73 hf
      refine lv_iload_n hx hb dX6_laneOf_76 rfl (lv_at hl 0 rfl) ?_
      refine lv_goto (tgt := 81) hx hb dX6_laneOf_77 (by decide) ?_
      exact hR _ ls H locs _ _ (congrArg (fun q => q) (Option.some.inj hf)) rfl rfl dX6_laneOf_81 hP hD hS
  intro H locs hP hD hS ls hl
  have hl : lv_has ls 4 [(0, .ref (A 0)), (1, .int x1), (2, .int x2)] := hl
  unfold fX6_laneOf at hf
  refine lv_aload_n hx hb dX6_laneOf_0 rfl (lv_at hl 0 rfl) ?_
  refine ld_f S iX6 hK hP 0 12 (.ref (A 11)) (gX6_0 _ _ _ _) rfl (by decide) k45 rfl rfl dX6_laneOf_1 ?_
  refine lv_iload_n hx hb dX6_laneOf_4 rfl (lv_at hl 1 rfl) ?_
  obtain ⟨c5, hf⟩ := ck_t hf
  refine va_zald (f := mm 12) hx hb hK hP 11 1 (gX6_11 _ _ _ _) rfl (inb_in c5) dX6_laneOf_5 ?_
  refine lv_if_ne (tgt := 11) hx hb dX6_laneOf_6 (by decide) (fun c6 => ?_) (fun c6 => ?_)
  · have hf := if_f c6 hf
    refine lv_aload_n hx hb dX6_laneOf_11 rfl (lv_at hl 0 rfl) ?_
    refine ld_f S iX6 hK hP 0 7 (.ref (A 6)) (gX6_0 _ _ _ _) rfl (by decide) k29 rfl rfl dX6_laneOf_12 ?_
    refine lv_iload_n hx hb dX6_laneOf_15 rfl (lv_at hl 1 rfl) ?_
    obtain ⟨c16, hf⟩ := ck_t hf
    refine va_zald (f := mm 7) hx hb hK hP 6 1 (gX6_6 _ _ _ _) rfl (inb_in c16) dX6_laneOf_16 ?_
    refine lv_if_ne (tgt := 45) hx hb dX6_laneOf_17 (by decide) (fun c17 => ?_) (fun c17 => ?_)
    · have hf := if_f c17 hf
      refine lv_iload_n hx hb dX6_laneOf_45 rfl (lv_at hl 2 rfl) ?_
      refine lv_if_ne (tgt := 58) hx hb dX6_laneOf_46 (by decide) (fun c46 => ?_) (fun c46 => ?_)
      · have hf := if_f c46 hf
        refine lv_iload_n hx hb dX6_laneOf_58 rfl (lv_at hl 2 rfl) ?_
        exact B59 _ _ hf H locs hP hD hS ls (lv_sub hl [0, 1] rfl)
      · have hf := if_t c46 hf
        refine lv_aload_n hx hb dX6_laneOf_49 rfl (lv_at hl 0 rfl) ?_
        refine ld_f S iX6 hK hP 0 9 (.ref (A 8)) (gX6_0 _ _ _ _) rfl (by decide) k36 rfl rfl dX6_laneOf_50 ?_
        refine lv_iload_n hx hb dX6_laneOf_53 rfl (lv_at hl 1 rfl) ?_
        obtain ⟨c54, hf⟩ := ck_t hf
        refine va_iald (f := mm 9) hx hb hK hP 8 0 (gX6_8 _ _ _ _) rfl (inb_in c54) dX6_laneOf_54 ?_
        refine lv_goto (tgt := 59) hx hb dX6_laneOf_55 (by decide) ?_
        exact B59 _ _ hf H locs hP hD hS ls (lv_sub hl [0, 1] rfl)
    · have hf := if_t c17 hf
      refine lv_iload_n hx hb dX6_laneOf_20 rfl (lv_at hl 2 rfl) ?_
      refine lv_if_eq (tgt := 34) hx hb dX6_laneOf_21 (by decide) (fun c21 => ?_) (fun c21 => ?_)
      · have hf := if_t c21 hf
        refine lv_aload_n hx hb dX6_laneOf_34 rfl (lv_at hl 0 rfl) ?_
        refine ld_f S iX6 hK hP 0 9 (.ref (A 8)) (gX6_0 _ _ _ _) rfl (by decide) k36 rfl rfl dX6_laneOf_35 ?_
        refine lv_iload_n hx hb dX6_laneOf_38 rfl (lv_at hl 1 rfl) ?_
        obtain ⟨c39, hf⟩ := ck_t hf
        refine va_iald (f := mm 9) hx hb hK hP 8 0 (gX6_8 _ _ _ _) rfl (inb_in c39) dX6_laneOf_39 ?_
        refine lv_goto (tgt := 44) hx hb dX6_laneOf_40 (by decide) ?_
        exact hR _ ls H locs _ _ (congrArg (fun q => q) (Option.some.inj hf)) rfl rfl dX6_laneOf_44 hP hD hS
      · have hf := if_f c21 hf
        refine lv_iload_n hx hb dX6_laneOf_24 rfl (lv_at hl 2 rfl) ?_
        refine lv_aload_n hx hb dX6_laneOf_25 rfl (lv_at hl 0 rfl) ?_
        refine ld_f S iX6 hK hP 0 9 (.ref (A 8)) (gX6_0 _ _ _ _) rfl (by decide) k36 rfl rfl dX6_laneOf_26 ?_
        refine lv_iload_n hx hb dX6_laneOf_29 rfl (lv_at hl 1 rfl) ?_
        obtain ⟨c30, hf⟩ := ck_t hf
        refine va_iald (f := mm 9) hx hb hK hP 8 0 (gX6_8 _ _ _ _) rfl (inb_in c30) dX6_laneOf_30 ?_
        refine lv_icmp_ne (tgt := 43) hx hb dX6_laneOf_31 (by decide) (fun c31 => ?_) (fun c31 => ?_)
        · have hf := if_f c31 hf
          refine lv_iconst (v := 0) hx hb dX6_laneOf_43 (by decide) ?_
          exact hR _ ls H locs _ _ (congrArg (fun q => q) (Option.some.inj hf)) rfl rfl dX6_laneOf_44 hP hD hS
        · have hf := if_t c31 hf
          refine lv_aload_n hx hb dX6_laneOf_34 rfl (lv_at hl 0 rfl) ?_
          refine ld_f S iX6 hK hP 0 9 (.ref (A 8)) (gX6_0 _ _ _ _) rfl (by decide) k36 rfl rfl dX6_laneOf_35 ?_
          refine lv_iload_n hx hb dX6_laneOf_38 rfl (lv_at hl 1 rfl) ?_
          obtain ⟨c39, hf⟩ := ck_t hf
          refine va_iald (f := mm 9) hx hb hK hP 8 0 (gX6_8 _ _ _ _) rfl (inb_in c39) dX6_laneOf_39 ?_
          refine lv_goto (tgt := 44) hx hb dX6_laneOf_40 (by decide) ?_
          exact hR _ ls H locs _ _ (congrArg (fun q => q) (Option.some.inj hf)) rfl rfl dX6_laneOf_44 hP hD hS
  · have hf := if_t c6 hf
    refine lv_iconst (v := 0) hx hb dX6_laneOf_9 (by decide) ?_
    exact hR _ ls H locs _ _ (congrArg (fun q => q) (Option.some.inj hf)) rfl rfl dX6_laneOf_10 hP hD hS
set_option maxHeartbeats 4000000 in
set_option maxRecDepth 100000 in
theorem mX6_hasLane (l : Launch) (D : va_G) (cI cZ : ClassId) (A : Nat → Nat)  (mm : St) (x1 : Int32) (x2 : Int32) (sz : Nat) (res : Int32) (hf : fX6_hasLane mm x1 x2 = some res) : Met l yX6_hasLane wsX6_hasLane ({ frames := 0, cells := 0, slots := 0, locals := 0 }) (mP D (tysX cI cZ) [.ref (A 0), .int x1, .int x2] (wX6 cI cZ A mm) sz) (mQi D res (wX6 cI cZ A mm) (wX6 cI cZ A mm) sz) 0 0 (va_A (wX6 cI cZ A mm) sz) := by
  refine mkM_i (cc := cX6_hasLane) (maxL := 3) (own := RX6) (by decide +kernel) rfl rfl (Nat.le_of_ble_eq_true rfl) ?_
  intro p e s m args below meth c A0 Q S hK hG hA hR
  obtain ⟨hx, hb, hml, hown, hts⟩ := id S
  have k29 := hts (.fieldLink RX6 29 "SwitchFloorModel" "isTrunk" "[Z") (by decide +kernel)
  have iX6 : ∀ w ∈ wsX60, w ∈ wsX6_hasLane := by decide +kernel
  have k36 := hts (.fieldLink RX6 36 "SwitchFloorModel" "lane" "[I") (by decide +kernel)
  have k33 := hts (.fieldLink RX6 33 "SwitchFloorModel" "lanes" "[I") (by decide +kernel)
  intro H locs hP hD hS ls hl
  have hl : lv_has ls 3 [(0, .ref (A 0)), (1, .int x1), (2, .int x2)] := hl
  unfold fX6_hasLane at hf
  refine lv_aload_n hx hb dX6_hasLane_0 rfl (lv_at hl 0 rfl) ?_
  refine ld_f S iX6 hK hP 0 7 (.ref (A 6)) (gX6_0 _ _ _ _) rfl (by decide) k29 rfl rfl dX6_hasLane_1 ?_
  refine lv_iload_n hx hb dX6_hasLane_4 rfl (lv_at hl 1 rfl) ?_
  obtain ⟨c5, hf⟩ := ck_t hf
  refine va_zald (f := mm 7) hx hb hK hP 6 1 (gX6_6 _ _ _ _) rfl (inb_in c5) dX6_hasLane_5 ?_
  refine lv_if_eq (tgt := 33) hx hb dX6_hasLane_6 (by decide) (fun c6 => ?_) (fun c6 => ?_)
  · have hf := if_t c6 hf
    refine lv_aload_n hx hb dX6_hasLane_33 rfl (lv_at hl 0 rfl) ?_
    refine ld_f S iX6 hK hP 0 9 (.ref (A 8)) (gX6_0 _ _ _ _) rfl (by decide) k36 rfl rfl dX6_hasLane_34 ?_
    refine lv_iload_n hx hb dX6_hasLane_37 rfl (lv_at hl 1 rfl) ?_
    obtain ⟨c38, hf⟩ := ck_t hf
    refine va_iald (f := mm 9) hx hb hK hP 8 0 (gX6_8 _ _ _ _) rfl (inb_in c38) dX6_hasLane_38 ?_
    refine lv_iload_n hx hb dX6_hasLane_39 rfl (lv_at hl 2 rfl) ?_
    refine lv_icmp_ne (tgt := 47) hx hb dX6_hasLane_40 (by decide) (fun c40 => ?_) (fun c40 => ?_)
    · have hf := if_f c40 hf
      refine lv_iconst (v := 0) hx hb dX6_hasLane_47 (by decide) ?_
      exact hR _ ls H locs _ _ (congrArg (fun q => q) (Option.some.inj hf)) rfl (by decide) dX6_hasLane_48 hP hD hS
    · have hf := if_t c40 hf
      refine lv_iconst (v := 1) hx hb dX6_hasLane_43 (by decide) ?_
      refine lv_goto (tgt := 48) hx hb dX6_hasLane_44 (by decide) ?_
      exact hR _ ls H locs _ _ (congrArg (fun q => q) (Option.some.inj hf)) rfl (by decide) dX6_hasLane_48 hP hD hS
  · have hf := if_f c6 hf
    refine lv_aload_n hx hb dX6_hasLane_9 rfl (lv_at hl 0 rfl) ?_
    refine ld_f S iX6 hK hP 0 8 (.ref (A 7)) (gX6_0 _ _ _ _) rfl (by decide) k33 rfl rfl dX6_hasLane_10 ?_
    refine lv_iload_n hx hb dX6_hasLane_13 rfl (lv_at hl 1 rfl) ?_
    obtain ⟨c14, hf⟩ := ck_t hf
    refine va_iald (f := mm 8) hx hb hK hP 7 0 (gX6_7 _ _ _ _) rfl (inb_in c14) dX6_hasLane_14 ?_
    refine lv_iload_n hx hb dX6_hasLane_15 rfl (lv_at hl 2 rfl) ?_
    refine lv_iconst (v := 1) hx hb dX6_hasLane_16 (by decide) ?_
    refine lv_isub hx hb dX6_hasLane_17 ?_
    refine lv_ishr hx hb dX6_hasLane_18 ?_
    refine lv_iconst (v := 1) hx hb dX6_hasLane_19 (by decide) ?_
    refine lv_iand hx hb dX6_hasLane_20 ?_
    refine lv_iconst (v := 1) hx hb dX6_hasLane_21 (by decide) ?_
    refine lv_icmp_ne (tgt := 29) hx hb dX6_hasLane_22 (by decide) (fun c22 => ?_) (fun c22 => ?_)
    · have hf := if_f c22 hf
      refine lv_iconst (v := 0) hx hb dX6_hasLane_29 (by decide) ?_
      refine lv_goto (tgt := 48) hx hb dX6_hasLane_30 (by decide) ?_
      exact hR _ ls H locs _ _ (congrArg (fun q => q) (Option.some.inj hf)) rfl (by decide) dX6_hasLane_48 hP hD hS
    · have hf := if_t c22 hf
      refine lv_iconst (v := 1) hx hb dX6_hasLane_25 (by decide) ?_
      refine lv_goto (tgt := 48) hx hb dX6_hasLane_26 (by decide) ?_
      exact hR _ ls H locs _ _ (congrArg (fun q => q) (Option.some.inj hf)) rfl (by decide) dX6_hasLane_48 hP hD hS
set_option maxHeartbeats 4000000 in
set_option maxRecDepth 100000 in
theorem mX6_queues (l : Launch) (D : va_G) (cI cZ : ClassId) (A : Nat → Nat)  (mm : St) (x1 : Int32) (x2 : Int32) (x3 : Int32) (x4 : Int32) (sz : Nat) (res : St) (hf : fX6_queues mm x1 x2 x3 x4 = some res) : Met l yX6_queues wsX6_queues ({ frames := 0, cells := 0, slots := 0, locals := 0 }) (mP D (tysX cI cZ) [.ref (A 0), .int x1, .int x2, .int x3, .int x4] (wX6 cI cZ A mm) sz) (mQv D (wX6 cI cZ A mm) (wX6 cI cZ A res) sz) 0 0 (va_A (wX6 cI cZ A mm) sz) := by
  refine mkM_v (cc := cX6_queues) (maxL := 5) (own := RX6) (by decide +kernel) rfl rfl (Nat.le_of_ble_eq_true rfl) ?_
  intro p e s m args below meth c A0 Q S hK hG hA hR
  obtain ⟨hx, hb, hml, hown, hts⟩ := id S
  have k102 := hts (.fieldLink RX6 102 "SwitchFloorModel" "queuePort" "[I") (by decide +kernel)
  have iX6 : ∀ w ∈ wsX60, w ∈ wsX6_queues := by decide +kernel
  have k215 := hts (.fieldLink RX6 215 "SwitchFloorModel" "queued" "I") (by decide +kernel)
  have k105 := hts (.fieldLink RX6 105 "SwitchFloorModel" "queueTag" "[I") (by decide +kernel)
  have k108 := hts (.fieldLink RX6 108 "SwitchFloorModel" "queueSecond" "[I") (by decide +kernel)
  have k111 := hts (.fieldLink RX6 111 "SwitchFloorModel" "queueHops" "[I") (by decide +kernel)
  intro H locs hP hD hS ls hl
  have hl : lv_has ls 5 [(0, .ref (A 0)), (1, .int x1), (2, .int x2), (3, .int x3), (4, .int x4)] := hl
  unfold fX6_queues at hf
  refine lv_aload_n hx hb dX6_queues_0 rfl (lv_at hl 0 rfl) ?_
  refine ld_f S iX6 hK hP 0 31 (.ref (A 30)) (gX6_0 _ _ _ _) rfl (by decide) k102 rfl rfl dX6_queues_1 ?_
  refine lv_aload_n hx hb dX6_queues_4 rfl (lv_at hl 0 rfl) ?_
  refine ld_f S iX6 hK hP 0 35 (.int (mm 35 0)) (gX6_0 _ _ _ _) rfl (by decide) k215 rfl rfl dX6_queues_5 ?_
  refine lv_iload_n hx hb dX6_queues_8 rfl (lv_at hl 1 rfl) ?_
  obtain ⟨c9, hf⟩ := ck_t hf
  refine st_i hx hb hK hP hD hS 30 0 (sX6_30 _ _ _ _ _ _) (gX6_30 _ _ _ _) rfl c9 dX6_queues_9 (fun H locs hP hD hS => ?_)
  refine lv_aload_n hx hb dX6_queues_10 rfl (lv_at hl 0 rfl) ?_
  refine ld_f S iX6 hK hP 0 32 (.ref (A 31)) (gX6_0 _ _ _ _) rfl (by decide) k105 rfl rfl dX6_queues_11 ?_
  refine lv_aload_n hx hb dX6_queues_14 rfl (lv_at hl 0 rfl) ?_
  refine ld_f S iX6 hK hP 0 35 (.int (mm 35 0)) (gX6_0 _ _ _ _) rfl (by decide) k215 rfl rfl dX6_queues_15 ?_
  refine lv_iload_n hx hb dX6_queues_18 rfl (lv_at hl 2 rfl) ?_
  obtain ⟨c19, hf⟩ := ck_t hf
  refine st_i hx hb hK hP hD hS 31 0 (sX6_31 _ _ _ _ _ _) (gX6_31 _ _ _ _) rfl c19 dX6_queues_19 (fun H locs hP hD hS => ?_)
  refine lv_aload_n hx hb dX6_queues_20 rfl (lv_at hl 0 rfl) ?_
  refine ld_f S iX6 hK hP 0 33 (.ref (A 32)) (gX6_0 _ _ _ _) rfl (by decide) k108 rfl rfl dX6_queues_21 ?_
  refine lv_aload_n hx hb dX6_queues_24 rfl (lv_at hl 0 rfl) ?_
  refine ld_f S iX6 hK hP 0 35 (.int (mm 35 0)) (gX6_0 _ _ _ _) rfl (by decide) k215 rfl rfl dX6_queues_25 ?_
  refine lv_iload_n hx hb dX6_queues_28 rfl (lv_at hl 3 rfl) ?_
  obtain ⟨c29, hf⟩ := ck_t hf
  refine st_i hx hb hK hP hD hS 32 0 (sX6_32 _ _ _ _ _ _) (gX6_32 _ _ _ _) rfl c29 dX6_queues_29 (fun H locs hP hD hS => ?_)
  refine lv_aload_n hx hb dX6_queues_30 rfl (lv_at hl 0 rfl) ?_
  refine ld_f S iX6 hK hP 0 34 (.ref (A 33)) (gX6_0 _ _ _ _) rfl (by decide) k111 rfl rfl dX6_queues_31 ?_
  refine lv_aload_n hx hb dX6_queues_34 rfl (lv_at hl 0 rfl) ?_
  refine ld_f S iX6 hK hP 0 35 (.int (mm 35 0)) (gX6_0 _ _ _ _) rfl (by decide) k215 rfl rfl dX6_queues_35 ?_
  refine lv_iload hx hb dX6_queues_38 (lv_at hl 4 rfl) ?_
  obtain ⟨c40, hf⟩ := ck_t hf
  refine st_i hx hb hK hP hD hS 33 0 (sX6_33 _ _ _ _ _ _) (gX6_33 _ _ _ _) rfl c40 dX6_queues_40 (fun H locs hP hD hS => ?_)
  refine lv_aload_n hx hb dX6_queues_41 rfl (lv_at hl 0 rfl) ?_
  refine lv_dup hx hb dX6_queues_42 rfl ?_
  refine ld_f S iX6 hK hP 0 35 (.int (mm 35 0)) (gX6_0 _ _ _ _) rfl (by decide) k215 rfl rfl dX6_queues_43 ?_
  refine lv_iconst (v := 1) hx hb dX6_queues_46 (by decide) ?_
  refine lv_iadd hx hb dX6_queues_47 ?_
  refine st_f S iX6 tyX6 tyX6_ok nmX6 hK hP hD hS 0 35 (sX6_0_35 _ _ _ _ _) (gX6_0 _ _ _ _) rfl (by decide) k215 rfl rfl (by decide +kernel) rfl dX6_queues_48 (fun H locs hP hD hS => ?_)
  exact hR _ ls H locs _ (congrArg (fun q => (wX6 cI cZ A q)) (Option.some.inj hf)) dX6_queues_51 hP hD hS
set_option maxHeartbeats 4000000 in
set_option maxRecDepth 100000 in
theorem mX6_goesOut (l : Launch) (D : va_G) (cI cZ : ClassId) (A : Nat → Nat)  (mm : St) (x1 : Int32) (x2 : Int32) (x3 : Int32) (x4 : Int32) (x5 : Int32) (sz : Nat) (res : Int32 × St) (hf : fX6_goesOut mm x1 x2 x3 x4 x5 = some res) : Met l yX6_goesOut wsX6_goesOut ({ frames := 1, cells := 0, slots := 0, locals := 24 }) (mP D (tysX cI cZ) [.ref (A 0), .int x1, .int x2, .int x3, .int x4, .int x5] (wX6 cI cZ A mm) sz) (mQi D res.1 (wX6 cI cZ A mm) (wX6 cI cZ A (res.2)) sz) 0 0 (va_A (wX6 cI cZ A mm) sz) := by
  refine mkM_i (cc := cX6_goesOut) (maxL := 9) (own := RX6) (by decide +kernel) rfl rfl (Nat.le_of_ble_eq_true rfl) ?_
  intro p e s m args below meth c A0 Q S hK hG hA hR
  obtain ⟨hx, hb, hml, hown, hts⟩ := id S
  have k29 := hts (.fieldLink RX6 29 "SwitchFloorModel" "isTrunk" "[Z") (by decide +kernel)
  have iX6 : ∀ w ∈ wsX60, w ∈ wsX6_goesOut := by decide +kernel
  have k23 := hts (.fieldLink RX6 23 "SwitchFloorModel" "house" "[I") (by decide +kernel)
  have k96 := hts (.fieldLink RX6 96 "SwitchFloorModel" "got" "[I") (by decide +kernel)
  have k99 := hts (.fieldLink RX6 99 "SwitchFloorModel" "overheard" "[I") (by decide +kernel)
  have k17 := hts (.fieldLink RX6 17 "SwitchFloorModel" "wire" "[I") (by decide +kernel)
  have k36 := hts (.fieldLink RX6 36 "SwitchFloorModel" "lane" "[I") (by decide +kernel)
  have B163 : ∀ (mm : St) (x8 : Int32) (y0 : Int32) (y1 : Int32) (y2 : Int32), fX6_goesOut_J163 mm x8 y0 y1 y2 = some res → Bk p l e ({ frames := 1, cells := 0, slots := 0, locals := 24 }) s m args below meth c Q A0 D 9 0 0 (wX6 cI cZ A mm) [(8, .int x8)] 163 [.int y0, .int y1, .int y2, .ref (A 29)] := by
    intro mm x8 y0 y1 y2 hf
    unfold fX6_goesOut_J163 at hf
    intro H locs hP hD hS ls hl
    refine lv_iadd hx hb dX6_goesOut_163 ?_
    obtain ⟨c164, hf⟩ := ck_t hf
    refine st_i hx hb hK hP hD hS 29 0 (sX6_29 _ _ _ _ _ _) (gX6_29 _ _ _ _) rfl c164 dX6_goesOut_164 (fun H locs hP hD hS => ?_)
    refine lv_iload hx hb dX6_goesOut_165 (lv_at hl 0 rfl) ?_
    refine lv_if_eq (tgt := 174) hx hb dX6_goesOut_167 (by decide) (fun c167 => ?_) (fun c167 => ?_)
    · have hf := if_t c167 hf
      refine lv_iconst (v := 0) hx hb dX6_goesOut_174 (by decide) ?_
      exact hR _ ls H locs _ _ (congrArg (fun q => q.1) (Option.some.inj hf)) (congrArg (fun q => (wX6 cI cZ A (q.2))) (Option.some.inj hf)) rfl dX6_goesOut_175 hP hD hS
    · have hf := if_f c167 hf
      refine lv_iconst (v := 1) hx hb dX6_goesOut_170 (by decide) ?_
      refine lv_goto (tgt := 175) hx hb dX6_goesOut_171 (by decide) ?_
      exact hR _ ls H locs _ _ (congrArg (fun q => q.1) (Option.some.inj hf)) (congrArg (fun q => (wX6 cI cZ A (q.2))) (Option.some.inj hf)) rfl dX6_goesOut_175 hP hD hS
  have B143 : ∀ (mm : St) (x7 : Int32) (x8 : Int32) (y0 : Int32) (y1 : Int32) (y2 : Int32), fX6_goesOut_J143 mm x7 x8 y0 y1 y2 = some res → Bk p l e ({ frames := 1, cells := 0, slots := 0, locals := 24 }) s m args below meth c Q A0 D 9 0 0 (wX6 cI cZ A mm) [(0, .ref (A 0)), (7, .int x7), (8, .int x8)] 143 [.int y0, .int y1, .int y2, .ref (A 28)] := by
    intro mm x7 x8 y0 y1 y2 hf
    unfold fX6_goesOut_J143 at hf
    intro H locs hP hD hS ls hl
    refine lv_iadd hx hb dX6_goesOut_143 ?_
    obtain ⟨c144, hf⟩ := ck_t hf
    refine st_i hx hb hK hP hD hS 28 0 (sX6_28 _ _ _ _ _ _) (gX6_28 _ _ _ _) rfl c144 dX6_goesOut_144 (fun H locs hP hD hS => ?_)
    refine lv_aload_n hx hb dX6_goesOut_145 rfl (lv_at hl 0 rfl) ?_
    refine ld_f S iX6 hK hP 0 30 (.ref (A 29)) (gX6_0 _ _ _ _) rfl (by decide) k99 rfl rfl dX6_goesOut_146 ?_
    refine lv_iload hx hb dX6_goesOut_149 (lv_at hl 1 rfl) ?_
    refine lv_dup2_11 hx hb dX6_goesOut_151 rfl rfl ?_
    obtain ⟨c152, hf⟩ := ck_t hf
    refine va_iald (f := mm 30) hx hb hK hP 29 0 (gX6_29 _ _ _ _) rfl (inb_in c152) dX6_goesOut_152 ?_
    refine lv_iload hx hb dX6_goesOut_153 (lv_at hl 2 rfl) ?_
    refine lv_if_eq (tgt := 162) hx hb dX6_goesOut_155 (by decide) (fun c155 => ?_) (fun c155 => ?_)
    · have hf := if_t c155 hf
      refine lv_iconst (v := 1) hx hb dX6_goesOut_162 (by decide) ?_
      exact B163 _ _ _ _ _ hf H locs hP hD hS ls (lv_sub hl [2] rfl)
    · have hf := if_f c155 hf
      refine lv_iconst (v := 0) hx hb dX6_goesOut_158 (by decide) ?_
      refine lv_goto (tgt := 163) hx hb dX6_goesOut_159 (by decide) ?_
      exact B163 _ _ _ _ _ hf H locs hP hD hS ls (lv_sub hl [2] rfl)
  have B123 : ∀ (mm : St) (x7 : Int32) (y0 : Int32), fX6_goesOut_J123 mm x7 y0 = some res → Bk p l e ({ frames := 1, cells := 0, slots := 0, locals := 24 }) s m args below meth c Q A0 D 9 0 0 (wX6 cI cZ A mm) [(0, .ref (A 0)), (7, .int x7)] 123 [.int y0] := by
    intro mm x7 y0 hf
    unfold fX6_goesOut_J123 at hf
    intro H locs hP hD hS ls hl
    refine lv_istore (lv' := [(8, .int y0), (0, .ref (A 0)), (7, .int x7)]) hx hb dX6_goesOut_123 hl (by decide) rfl (fun ls hl => ?_)
    refine lv_aload_n hx hb dX6_goesOut_125 rfl (lv_at hl 1 rfl) ?_
    refine ld_f S iX6 hK hP 0 29 (.ref (A 28)) (gX6_0 _ _ _ _) rfl (by decide) k96 rfl rfl dX6_goesOut_126 ?_
    refine lv_iload hx hb dX6_goesOut_129 (lv_at hl 2 rfl) ?_
    refine lv_dup2_11 hx hb dX6_goesOut_131 rfl rfl ?_
    obtain ⟨c132, hf⟩ := ck_t hf
    refine va_iald (f := mm 29) hx hb hK hP 28 0 (gX6_28 _ _ _ _) rfl (inb_in c132) dX6_goesOut_132 ?_
    refine lv_iload hx hb dX6_goesOut_133 (lv_at hl 0 rfl) ?_
    refine lv_if_eq (tgt := 142) hx hb dX6_goesOut_135 (by decide) (fun c135 => ?_) (fun c135 => ?_)
    · have hf := if_t c135 hf
      refine lv_iconst (v := 0) hx hb dX6_goesOut_142 (by decide) ?_
      exact B143 _ _ _ _ _ _ hf H locs hP hD hS ls (lv_sub hl [1, 2, 0] rfl)
    · have hf := if_f c135 hf
      refine lv_iconst (v := 1) hx hb dX6_goesOut_138 (by decide) ?_
      refine lv_goto (tgt := 143) hx hb dX6_goesOut_139 (by decide) ?_
      exact B143 _ _ _ _ _ _ hf H locs hP hD hS ls (lv_sub hl [1, 2, 0] rfl)
  have B95 : ∀ (mm : St) (x4 : Int32) (y0 : Int32) (y1 : Int32) (y2 : Int32), fX6_goesOut_J95 mm x4 y0 y1 y2 = some res → Bk p l e ({ frames := 1, cells := 0, slots := 0, locals := 24 }) s m args below meth c Q A0 D 9 0 0 (wX6 cI cZ A mm) [(4, .int x4)] 95 [.int y0, .int y1, .int y2, .ref (A 0)] := by
    intro mm x4 y0 y1 y2 hf
    unfold fX6_goesOut_J95 at hf
    intro H locs hP hD hS ls hl
    refine lv_iload hx hb dX6_goesOut_95 (lv_at hl 0 rfl) ?_
    refine lv_iconst (v := 1) hx hb dX6_goesOut_97 (by decide) ?_
    refine lv_iadd hx hb dX6_goesOut_98 ?_
    obtain ⟨q99, h99, hf⟩ := bd_t hf
    refine cl_v (va_runV (As := [.int y2, .int y1, .int y0, .int (x4 + 1)]) (rest := []) S (mX6_queues l D cI cZ A mm y2 y1 y0 (x4 + 1) H.size q99 h99) (cwV 4 hts gX6_goesOut_X6_queues rfl rfl rfl (by decide +kernel) ⟨Nat.le_of_ble_eq_true rfl, Nat.le_of_ble_eq_true rfl⟩) (mP_V (ci := 6) (Cut.self _ []) hP hD hK hG rfl (gX6_0 _ _ _ _)) rfl rfl hl.1 rfl (lv_room (Nat.le_of_ble_eq_true rfl)) dX6_goesOut_99 ⟨Nat.le_refl _, Nat.le_refl _⟩) (Cut.self _ _) hP hD hS hA (fun H locs hP hD hS => ?_)
    refine lv_iconst (v := 0) hx hb dX6_goesOut_102 (by decide) ?_
    exact hR _ ls H locs _ _ (congrArg (fun q => q.1) (Option.some.inj hf)) (congrArg (fun q => (wX6 cI cZ A (q.2))) (Option.some.inj hf)) rfl dX6_goesOut_103 hP hD hS
  have B85 : ∀ (mm : St) (x3 : Int32) (x4 : Int32) (x6 : Int32) (y0 : Int32) (y1 : Int32), fX6_goesOut_J85 mm x3 x4 x6 y0 y1 = some res → Bk p l e ({ frames := 1, cells := 0, slots := 0, locals := 24 }) s m args below meth c Q A0 D 9 0 0 (wX6 cI cZ A mm) [(3, .int x3), (4, .int x4), (6, .int x6)] 85 [.int y0, .int y1, .ref (A 0)] := by
    intro mm x3 x4 x6 y0 y1 hf
    unfold fX6_goesOut_J85 at hf
    intro H locs hP hD hS ls hl
    refine lv_iload hx hb dX6_goesOut_85 (lv_at hl 2 rfl) ?_
    refine lv_if_eq (tgt := 94) hx hb dX6_goesOut_87 (by decide) (fun c87 => ?_) (fun c87 => ?_)
    · have hf := if_t c87 hf
      refine lv_iconst (v := 0) hx hb dX6_goesOut_94 (by decide) ?_
      exact B95 _ _ _ _ _ hf H locs hP hD hS ls (lv_sub hl [1] rfl)
    · have hf := if_f c87 hf
      refine lv_iload_n hx hb dX6_goesOut_90 rfl (lv_at hl 0 rfl) ?_
      refine lv_goto (tgt := 95) hx hb dX6_goesOut_91 (by decide) ?_
      exact B95 _ _ _ _ _ hf H locs hP hD hS ls (lv_sub hl [1] rfl)
  have B35 : ∀ (mm : St) (x1 : Int32) (x2 : Int32) (x3 : Int32) (x4 : Int32) (x5 : Int32) (y0 : Int32), fX6_goesOut_J35 mm x1 x2 x3 x4 x5 y0 = some res → Bk p l e ({ frames := 1, cells := 0, slots := 0, locals := 24 }) s m args below meth c Q A0 D 9 0 0 (wX6 cI cZ A mm) [(0, .ref (A 0)), (1, .int x1), (2, .int x2), (3, .int x3), (4, .int x4), (5, .int x5)] 35 [.int y0] := by
    intro mm x1 x2 x3 x4 x5 y0 hf
    unfold fX6_goesOut_J35 at hf
    intro H locs hP hD hS ls hl
    refine lv_istore (lv' := [(6, .int y0), (0, .ref (A 0)), (1, .int x1), (2, .int x2), (3, .int x3), (4, .int x4), (5, .int x5)]) hx hb dX6_goesOut_35 hl (by decide) rfl (fun ls hl => ?_)
    refine lv_aload_n hx hb dX6_goesOut_37 rfl (lv_at hl 1 rfl) ?_
    refine ld_f S iX6 hK hP 0 5 (.ref (A 4)) (gX6_0 _ _ _ _) rfl (by decide) k23 rfl rfl dX6_goesOut_38 ?_
    refine lv_iload_n hx hb dX6_goesOut_41 rfl (lv_at hl 2 rfl) ?_
    obtain ⟨c42, hf⟩ := ck_t hf
    refine va_iald (f := mm 5) hx hb hK hP 4 0 (gX6_4 _ _ _ _) rfl (inb_in c42) dX6_goesOut_42 ?_
    refine lv_istore (lv' := [(7, .int (mm 5 x1.toNatClampNeg)), (6, .int y0), (0, .ref (A 0)), (1, .int x1), (2, .int x2), (3, .int x3), (4, .int x4), (5, .int x5)]) hx hb dX6_goesOut_43 hl (by decide) rfl (fun ls hl => ?_)
    refine lv_iload hx hb dX6_goesOut_45 (lv_at hl 0 rfl) ?_
    refine lv_iconst (v := (-1)) hx hb dX6_goesOut_47 (by decide) ?_
    refine lv_icmp_ne (tgt := 104) hx hb dX6_goesOut_48 (by decide) (fun c48 => ?_) (fun c48 => ?_)
    · have hf := if_f c48 hf
      refine lv_iload hx hb dX6_goesOut_104 (lv_at hl 7 rfl) ?_
      refine lv_bipush (v := 10) hx hb dX6_goesOut_106 (by decide) ?_
      refine lv_icmp_eq (tgt := 118) hx hb dX6_goesOut_108 (by decide) (fun c108 => ?_) (fun c108 => ?_)
      · have hf := if_t c108 hf
        refine lv_iconst (v := 1) hx hb dX6_goesOut_118 (by decide) ?_
        refine lv_goto (tgt := 123) hx hb dX6_goesOut_119 (by decide) ?_
        exact B123 _ _ _ hf H locs hP hD hS ls (lv_sub hl [2, 0] rfl)
      · have hf := if_f c108 hf
        refine lv_iload hx hb dX6_goesOut_111 (lv_at hl 7 rfl) ?_
        refine lv_iload hx hb dX6_goesOut_113 (lv_at hl 0 rfl) ?_
        refine lv_icmp_ne (tgt := 122) hx hb dX6_goesOut_115 (by decide) (fun c115 => ?_) (fun c115 => ?_)
        · have hf := if_f c115 hf
          refine lv_iconst (v := 0) hx hb dX6_goesOut_122 (by decide) ?_
          exact B123 _ _ _ hf H locs hP hD hS ls (lv_sub hl [2, 0] rfl)
        · have hf := if_t c115 hf
          refine lv_iconst (v := 1) hx hb dX6_goesOut_118 (by decide) ?_
          refine lv_goto (tgt := 123) hx hb dX6_goesOut_119 (by decide) ?_
          exact B123 _ _ _ hf H locs hP hD hS ls (lv_sub hl [2, 0] rfl)
    · have hf := if_t c48 hf
      refine lv_iload hx hb dX6_goesOut_51 (lv_at hl 6 rfl) ?_
      refine lv_bipush (v := 12) hx hb dX6_goesOut_53 (by decide) ?_
      refine lv_icmp_ge (tgt := 102) hx hb dX6_goesOut_55 (by decide) (fun c55 => ?_) (fun c55 => ?_)
      · have hf := if_t c55 hf
        refine lv_iconst (v := 0) hx hb dX6_goesOut_102 (by decide) ?_
        exact hR _ ls H locs _ _ (congrArg (fun q => q.1) (Option.some.inj hf)) (congrArg (fun q => (wX6 cI cZ A (q.2))) (Option.some.inj hf)) rfl dX6_goesOut_103 hP hD hS
      · have hf := if_f c55 hf
        refine lv_aload_n hx hb dX6_goesOut_58 rfl (lv_at hl 2 rfl) ?_
        refine ld_f S iX6 hK hP 0 3 (.ref (A 2)) (gX6_0 _ _ _ _) rfl (by decide) k17 rfl rfl dX6_goesOut_59 ?_
        refine lv_iload_n hx hb dX6_goesOut_62 rfl (lv_at hl 3 rfl) ?_
        obtain ⟨c63, hf⟩ := ck_t hf
        refine va_iald (f := mm 3) hx hb hK hP 2 0 (gX6_2 _ _ _ _) rfl (inb_in c63) dX6_goesOut_63 ?_
        refine lv_iconst (v := (-1)) hx hb dX6_goesOut_64 (by decide) ?_
        refine lv_icmp_eq (tgt := 102) hx hb dX6_goesOut_65 (by decide) (fun c65 => ?_) (fun c65 => ?_)
        · have hf := if_t c65 hf
          refine lv_iconst (v := 0) hx hb dX6_goesOut_102 (by decide) ?_
          exact hR _ ls H locs _ _ (congrArg (fun q => q.1) (Option.some.inj hf)) (congrArg (fun q => (wX6 cI cZ A (q.2))) (Option.some.inj hf)) rfl dX6_goesOut_103 hP hD hS
        · have hf := if_f c65 hf
          refine lv_aload_n hx hb dX6_goesOut_68 rfl (lv_at hl 2 rfl) ?_
          refine lv_aload_n hx hb dX6_goesOut_69 rfl (lv_at hl 2 rfl) ?_
          refine ld_f S iX6 hK hP 0 3 (.ref (A 2)) (gX6_0 _ _ _ _) rfl (by decide) k17 rfl rfl dX6_goesOut_70 ?_
          refine lv_iload_n hx hb dX6_goesOut_73 rfl (lv_at hl 3 rfl) ?_
          obtain ⟨c74, hf⟩ := ck_t hf
          refine va_iald (f := mm 3) hx hb hK hP 2 0 (gX6_2 _ _ _ _) rfl (inb_in c74) dX6_goesOut_74 ?_
          refine lv_iload hx hb dX6_goesOut_75 (lv_at hl 1 rfl) ?_
          refine lv_if_eq (tgt := 84) hx hb dX6_goesOut_77 (by decide) (fun c77 => ?_) (fun c77 => ?_)
          · have hf := if_t c77 hf
            refine lv_iload_n hx hb dX6_goesOut_84 rfl (lv_at hl 5 rfl) ?_
            exact B85 _ _ _ _ _ _ hf H locs hP hD hS ls (lv_sub hl [5, 6, 1] rfl)
          · have hf := if_f c77 hf
            refine lv_iload_n hx hb dX6_goesOut_80 rfl (lv_at hl 4 rfl) ?_
            refine lv_goto (tgt := 85) hx hb dX6_goesOut_81 (by decide) ?_
            exact B85 _ _ _ _ _ _ hf H locs hP hD hS ls (lv_sub hl [5, 6, 1] rfl)
  have B34 : ∀ (mm : St) (x1 : Int32) (x2 : Int32) (x3 : Int32) (x4 : Int32) (x5 : Int32), fX6_goesOut_J34 mm x1 x2 x3 x4 x5 = some res → Bk p l e ({ frames := 1, cells := 0, slots := 0, locals := 24 }) s m args below meth c Q A0 D 9 0 0 (wX6 cI cZ A mm) [(0, .ref (A 0)), (1, .int x1), (2, .int x2), (3, .int x3), (4, .int x4), (5, .int x5)] 34 [] := by
    intro mm x1 x2 x3 x4 x5 hf
    unfold fX6_goesOut_J34 at hf
    intro H locs hP hD hS ls hl
    refine lv_iconst (v := 0) hx hb dX6_goesOut_34 (by decide) ?_
    exact B35 _ _ _ _ _ _ _ hf H locs hP hD hS ls (lv_sub hl [0, 1, 2, 3, 4, 5] rfl)
  intro H locs hP hD hS ls hl
  have hl : lv_has ls 9 [(0, .ref (A 0)), (1, .int x1), (2, .int x2), (3, .int x3), (4, .int x4), (5, .int x5)] := hl
  unfold fX6_goesOut at hf
  refine lv_aload_n hx hb dX6_goesOut_0 rfl (lv_at hl 0 rfl) ?_
  refine lv_iload_n hx hb dX6_goesOut_1 rfl (lv_at hl 1 rfl) ?_
  refine lv_iload_n hx hb dX6_goesOut_2 rfl (lv_at hl 2 rfl) ?_
  obtain ⟨q3, h3, hf⟩ := bd_t hf
  refine cl_i (va_runV (As := [.int x1, .int x2]) (rest := []) S (mX6_hasLane l D cI cZ A mm x1 x2 H.size q3 h3) (cwV 2 hts gX6_goesOut_X6_hasLane rfl rfl rfl (by decide +kernel) ⟨Nat.le_of_ble_eq_true rfl, Nat.le_of_ble_eq_true rfl⟩) (mP_V (ci := 6) (Cut.self _ []) hP hD hK hG rfl (gX6_0 _ _ _ _)) rfl rfl hl.1 rfl (lv_room (Nat.le_of_ble_eq_true rfl)) dX6_goesOut_3 ⟨Nat.le_refl _, Nat.le_refl _⟩) (Cut.self _ _) hP hD hS hA (fun H locs hP hD hS => ?_)
  refine lv_if_ne (tgt := 11) hx hb dX6_goesOut_6 (by decide) (fun c6 => ?_) (fun c6 => ?_)
  · have hf := if_f c6 hf
    refine lv_aload_n hx hb dX6_goesOut_11 rfl (lv_at hl 0 rfl) ?_
    refine ld_f S iX6 hK hP 0 7 (.ref (A 6)) (gX6_0 _ _ _ _) rfl (by decide) k29 rfl rfl dX6_goesOut_12 ?_
    refine lv_iload_n hx hb dX6_goesOut_15 rfl (lv_at hl 1 rfl) ?_
    obtain ⟨c16, hf⟩ := ck_t hf
    refine va_zald (f := mm 7) hx hb hK hP 6 1 (gX6_6 _ _ _ _) rfl (inb_in c16) dX6_goesOut_16 ?_
    refine lv_if_eq (tgt := 34) hx hb dX6_goesOut_17 (by decide) (fun c17 => ?_) (fun c17 => ?_)
    · have hf := if_t c17 hf
      exact B34 _ _ _ _ _ _ hf H locs hP hD hS ls (lv_sub hl [0, 1, 2, 3, 4, 5] rfl)
    · have hf := if_f c17 hf
      refine lv_iload_n hx hb dX6_goesOut_20 rfl (lv_at hl 2 rfl) ?_
      refine lv_aload_n hx hb dX6_goesOut_21 rfl (lv_at hl 0 rfl) ?_
      refine ld_f S iX6 hK hP 0 9 (.ref (A 8)) (gX6_0 _ _ _ _) rfl (by decide) k36 rfl rfl dX6_goesOut_22 ?_
      refine lv_iload_n hx hb dX6_goesOut_25 rfl (lv_at hl 1 rfl) ?_
      obtain ⟨c26, hf⟩ := ck_t hf
      refine va_iald (f := mm 9) hx hb hK hP 8 0 (gX6_8 _ _ _ _) rfl (inb_in c26) dX6_goesOut_26 ?_
      refine lv_icmp_eq (tgt := 34) hx hb dX6_goesOut_27 (by decide) (fun c27 => ?_) (fun c27 => ?_)
      · have hf := if_t c27 hf
        exact B34 _ _ _ _ _ _ hf H locs hP hD hS ls (lv_sub hl [0, 1, 2, 3, 4, 5] rfl)
      · have hf := if_f c27 hf
        refine lv_iconst (v := 1) hx hb dX6_goesOut_30 (by decide) ?_
        refine lv_goto (tgt := 35) hx hb dX6_goesOut_31 (by decide) ?_
        exact B35 _ _ _ _ _ _ _ hf H locs hP hD hS ls (lv_sub hl [0, 1, 2, 3, 4, 5] rfl)
  · have hf := if_t c6 hf
    refine lv_iconst (v := 0) hx hb dX6_goesOut_9 (by decide) ?_
    exact hR _ ls H locs _ _ (congrArg (fun q => q.1) (Option.some.inj hf)) (congrArg (fun q => (wX6 cI cZ A (q.2))) (Option.some.inj hf)) rfl dX6_goesOut_10 hP hD hS
set_option maxHeartbeats 4000000 in
set_option maxRecDepth 100000 in
theorem mX6_comes (l : Launch) (D : va_G) (cI cZ : ClassId) (A : Nat → Nat)  (mm : St) (x1 : Int32) (x2 : Int32) (x3 : Int32) (sz : Nat) (res : Int32 × St) (hf : fX6_comes mm x1 x2 x3 = some res) : Met l yX6_comes wsX6_comes ({ frames := 3, cells := 0, slots := 0, locals := 67 }) (mP D (tysX cI cZ) [.ref (A 0), .int x1, .int x2, .int x3] (wX6 cI cZ A mm) sz) (mQi D res.1 (wX6 cI cZ A mm) (wX6 cI cZ A (res.2)) sz) 0 0 (va_A (wX6 cI cZ A mm) sz) := by
  refine mkM_i (cc := cX6_comes) (maxL := 13) (own := RX6) (by decide +kernel) rfl rfl (Nat.le_of_ble_eq_true rfl) ?_
  intro p e s m args below meth c A0 Q S hK hG hA hR
  obtain ⟨hx, hb, hml, hown, hts⟩ := id S
  have k102 := hts (.fieldLink RX6 102 "SwitchFloorModel" "queuePort" "[I") (by decide +kernel)
  have iX6 : ∀ w ∈ wsX60, w ∈ wsX6_comes := by decide +kernel
  have k105 := hts (.fieldLink RX6 105 "SwitchFloorModel" "queueTag" "[I") (by decide +kernel)
  have k108 := hts (.fieldLink RX6 108 "SwitchFloorModel" "queueSecond" "[I") (by decide +kernel)
  have k90 := hts (.fieldLink RX6 90 "SwitchFloorModel" "entryPort" "[I") (by decide +kernel)
  have k54 := hts (.fieldLink RX6 54 "SwitchFloorModel" "floods" "[I") (by decide +kernel)
  have k7 := hts (.fieldLink RX6 7 "SwitchFloorModel" "limit" "I") (by decide +kernel)
  have k45 := hts (.fieldLink RX6 45 "SwitchFloorModel" "isOpen" "[Z") (by decide +kernel)
  have k111 := hts (.fieldLink RX6 111 "SwitchFloorModel" "queueHops" "[I") (by decide +kernel)
  have k42 := hts (.fieldLink RX6 42 "SwitchFloorModel" "stormEnd" "[I") (by decide +kernel)
  have k193 := hts (.fieldLink RX6 193 "SwitchFloorModel" "now" "I") (by decide +kernel)
  have B201 : ∀ (x1 : Int32) (x3 : Int32) (x4 : Int32) (x6 : Int32) (x7 : Int32) (x8 : Int32) (mm : St) (x11 : Int32) (x12 : Int32), fX6_comes_L201 x1 x3 x4 x6 x7 x8 mm x11 x12 = some res → Bk p l e ({ frames := 3, cells := 0, slots := 0, locals := 67 }) s m args below meth c Q A0 D 13 0 0 (wX6 cI cZ A mm) [(0, .ref (A 0)), (1, .int x1), (3, .int x3), (4, .int x4), (6, .int x6), (7, .int x7), (8, .int x8), (11, .int x11), (12, .int x12)] 201 [] := by
    intro x1 x3 x4 x6 x7 x8 mm x11 x12 hf
    refine loop_ind (step := (fun k a => fX6_comes_S201 k x1 x3 x4 x6 x7 x8 (a.1) (a.2.1) (a.2.2))) (fun a => Bk p l e ({ frames := 3, cells := 0, slots := 0, locals := 67 }) s m args below meth c Q A0 D 13 0 0 (wX6 cI cZ A (a.1)) [(0, .ref (A 0)), (1, .int x1), (3, .int x3), (4, .int x4), (6, .int x6), (7, .int x7), (8, .int x8), (11, .int (a.2.1)), (12, .int (a.2.2))] 201 []) ?_ _ _ hf
    clear hf
    intro k201 hk201 a hf
    obtain ⟨mm_, x11_, x12_⟩ := a
    clear mm x11 x12
    obtain ⟨mm, e_⟩ : ∃ z, z = mm_ := ⟨_, rfl⟩
    subst e_
    obtain ⟨x11, e_⟩ : ∃ z, z = x11_ := ⟨_, rfl⟩
    subst e_
    obtain ⟨x12, e_⟩ : ∃ z, z = x12_ := ⟨_, rfl⟩
    subst e_
    have hf : fX6_comes_S201 k201 x1 x3 x4 x6 x7 x8 mm x11 x12 = some res := hf
    show Bk p l e ({ frames := 3, cells := 0, slots := 0, locals := 67 }) s m args below meth c Q A0 D 13 0 0 (wX6 cI cZ A mm) [(0, .ref (A 0)), (1, .int x1), (3, .int x3), (4, .int x4), (6, .int x6), (7, .int x7), (8, .int x8), (11, .int x11), (12, .int x12)] 201 []
    unfold fX6_comes_S201 at hf
    intro H locs hP hD hS ls hl
    refine lv_iload hx hb dX6_comes_201 (lv_at hl 8 rfl) ?_
    refine lv_iconst (v := 5) hx hb dX6_comes_203 (by decide) ?_
    refine lv_iload hx hb dX6_comes_204 (lv_at hl 6 rfl) ?_
    refine lv_imul hx hb dX6_comes_206 ?_
    refine lv_iconst (v := 5) hx hb dX6_comes_207 (by decide) ?_
    refine lv_iadd hx hb dX6_comes_208 ?_
    refine lv_icmp_ge (tgt := 261) hx hb dX6_comes_209 (by decide) (fun c209 => ?_) (fun c209 => ?_)
    · have hf := if_t c209 hf
      refine lv_iload hx hb dX6_comes_261 (lv_at hl 7 rfl) ?_
      exact hR _ ls H locs _ _ (congrArg (fun q => q.1) (Option.some.inj hf)) (congrArg (fun q => (wX6 cI cZ A (q.2))) (Option.some.inj hf)) rfl dX6_comes_263 hP hD hS
    · have hf := if_f c209 hf
      refine lv_iload hx hb dX6_comes_212 (lv_at hl 7 rfl) ?_
      refine lv_iload hx hb dX6_comes_214 (lv_at hl 8 rfl) ?_
      refine lv_iload hx hb dX6_comes_216 (lv_at hl 3 rfl) ?_
      refine lv_icmp_eq (tgt := 251) hx hb dX6_comes_218 (by decide) (fun c218 => ?_) (fun c218 => ?_)
      · have hf := if_t c218 hf
        refine lv_iconst (v := 0) hx hb dX6_comes_251 (by decide) ?_
        refine lv_iadd hx hb dX6_comes_252 ?_
        refine lv_istore (lv' := [(11, .int (x11 + 0)), (0, .ref (A 0)), (1, .int x1), (3, .int x3), (4, .int x4), (6, .int x6), (7, .int x7), (8, .int x8), (12, .int x12)]) hx hb dX6_comes_253 hl (by decide) rfl (fun ls hl => ?_)
        refine lv_iinc (v := x12 + 1) (lv' := [(12, .int (x12 + 1)), (11, .int (x11 + 0)), (0, .ref (A 0)), (1, .int x1), (3, .int x3), (4, .int x4), (6, .int x6), (7, .int x7), (8, .int x8)]) hx hb dX6_comes_255 hl (k := 8) rfl rfl (by decide) rfl (fun ls hl => ?_)
        refine lv_goto (tgt := 201) hx hb dX6_comes_258 (by decide) ?_
        exact hk201 _ hf H locs hP hD hS ls (lv_sub hl [2, 3, 4, 5, 6, 7, 8, 1, 0] rfl)
      · have hf := if_f c218 hf
        refine lv_aload_n hx hb dX6_comes_221 rfl (lv_at hl 0 rfl) ?_
        refine ld_f S iX6 hK hP 0 12 (.ref (A 11)) (gX6_0 _ _ _ _) rfl (by decide) k45 rfl rfl dX6_comes_222 ?_
        refine lv_iload hx hb dX6_comes_225 (lv_at hl 8 rfl) ?_
        obtain ⟨c227, hf⟩ := ck_t hf
        refine va_zald (f := mm 12) hx hb hK hP 11 1 (gX6_11 _ _ _ _) rfl (inb_in c227) dX6_comes_227 ?_
        refine lv_if_eq (tgt := 251) hx hb dX6_comes_228 (by decide) (fun c228 => ?_) (fun c228 => ?_)
        · have hf := if_t c228 hf
          refine lv_iconst (v := 0) hx hb dX6_comes_251 (by decide) ?_
          refine lv_iadd hx hb dX6_comes_252 ?_
          refine lv_istore (lv' := [(11, .int (x11 + 0)), (0, .ref (A 0)), (1, .int x1), (3, .int x3), (4, .int x4), (6, .int x6), (7, .int x7), (8, .int x8), (12, .int x12)]) hx hb dX6_comes_253 hl (by decide) rfl (fun ls hl => ?_)
          refine lv_iinc (v := x12 + 1) (lv' := [(12, .int (x12 + 1)), (11, .int (x11 + 0)), (0, .ref (A 0)), (1, .int x1), (3, .int x3), (4, .int x4), (6, .int x6), (7, .int x7), (8, .int x8)]) hx hb dX6_comes_255 hl (k := 8) rfl rfl (by decide) rfl (fun ls hl => ?_)
          refine lv_goto (tgt := 201) hx hb dX6_comes_258 (by decide) ?_
          exact hk201 _ hf H locs hP hD hS ls (lv_sub hl [2, 3, 4, 5, 6, 7, 8, 1, 0] rfl)
        · have hf := if_f c228 hf
          refine lv_aload_n hx hb dX6_comes_231 rfl (lv_at hl 0 rfl) ?_
          refine lv_iload hx hb dX6_comes_232 (lv_at hl 8 rfl) ?_
          refine lv_iload hx hb dX6_comes_234 (lv_at hl 4 rfl) ?_
          refine lv_iload hx hb dX6_comes_236 (lv_at hl 5 rfl) ?_
          refine lv_aload_n hx hb dX6_comes_238 rfl (lv_at hl 0 rfl) ?_
          refine ld_f S iX6 hK hP 0 34 (.ref (A 33)) (gX6_0 _ _ _ _) rfl (by decide) k111 rfl rfl dX6_comes_239 ?_
          refine lv_iload_n hx hb dX6_comes_242 rfl (lv_at hl 1 rfl) ?_
          obtain ⟨c243, hf⟩ := ck_t hf
          refine va_iald (f := mm 34) hx hb hK hP 33 0 (gX6_33 _ _ _ _) rfl (inb_in c243) dX6_comes_243 ?_
          refine lv_iload_n hx hb dX6_comes_244 rfl (lv_at hl 2 rfl) ?_
          obtain ⟨q245, h245, hf⟩ := bd_t hf
          refine cl_i (va_runV (As := [.int x12, .int x6, .int x7, .int (mm 34 x1.toNatClampNeg), .int x3]) (rest := [.int x11]) S (mX6_goesOut l D cI cZ A mm x12 x6 x7 (mm 34 x1.toNatClampNeg) x3 H.size q245 h245) (cwV 5 hts gX6_comes_X6_goesOut rfl rfl rfl (by decide +kernel) ⟨Nat.le_of_ble_eq_true rfl, Nat.le_of_ble_eq_true rfl⟩) (mP_V (ci := 6) (Cut.self _ []) hP hD hK hG rfl (gX6_0 _ _ _ _)) rfl rfl hl.1 rfl (lv_room (Nat.le_of_ble_eq_true rfl)) dX6_comes_245 ⟨Nat.le_refl _, Nat.le_refl _⟩) (Cut.self _ _) hP hD hS hA (fun H locs hP hD hS => ?_)
          refine lv_goto (tgt := 252) hx hb dX6_comes_248 (by decide) ?_
          refine lv_iadd hx hb dX6_comes_252 ?_
          refine lv_istore (lv' := [(11, .int (x11 + q245.1)), (0, .ref (A 0)), (1, .int x1), (3, .int x3), (4, .int x4), (6, .int x6), (7, .int x7), (8, .int x8), (12, .int x12)]) hx hb dX6_comes_253 hl (by decide) rfl (fun ls hl => ?_)
          refine lv_iinc (v := x12 + 1) (lv' := [(12, .int (x12 + 1)), (11, .int (x11 + q245.1)), (0, .ref (A 0)), (1, .int x1), (3, .int x3), (4, .int x4), (6, .int x6), (7, .int x7), (8, .int x8)]) hx hb dX6_comes_255 hl (k := 8) rfl rfl (by decide) rfl (fun ls hl => ?_)
          refine lv_goto (tgt := 201) hx hb dX6_comes_258 (by decide) ?_
          exact hk201 _ hf H locs hP hD hS ls (lv_sub hl [2, 3, 4, 5, 6, 7, 8, 1, 0] rfl)
  have B146 : ∀ (mm : St) (x1 : Int32) (x3 : Int32) (x4 : Int32) (x6 : Int32) (x7 : Int32) (x8 : Int32), fX6_comes_J146 mm x1 x3 x4 x6 x7 x8 = some res → Bk p l e ({ frames := 3, cells := 0, slots := 0, locals := 67 }) s m args below meth c Q A0 D 13 0 0 (wX6 cI cZ A mm) [(0, .ref (A 0)), (1, .int x1), (3, .int x3), (4, .int x4), (6, .int x6), (7, .int x7), (8, .int x8)] 146 [] := by
    intro mm x1 x3 x4 x6 x7 x8 hf
    unfold fX6_comes_J146 at hf
    intro H locs hP hD hS ls hl
    refine lv_aload_n hx hb dX6_comes_146 rfl (lv_at hl 0 rfl) ?_
    refine ld_f S iX6 hK hP 0 15 (.ref (A 14)) (gX6_0 _ _ _ _) rfl (by decide) k54 rfl rfl dX6_comes_147 ?_
    refine lv_iload hx hb dX6_comes_150 (lv_at hl 3 rfl) ?_
    refine lv_dup2_11 hx hb dX6_comes_152 rfl rfl ?_
    obtain ⟨c153, hf⟩ := ck_t hf
    refine va_iald (f := mm 15) hx hb hK hP 14 0 (gX6_14 _ _ _ _) rfl (inb_in c153) dX6_comes_153 ?_
    refine lv_iconst (v := 1) hx hb dX6_comes_154 (by decide) ?_
    refine lv_iadd hx hb dX6_comes_155 ?_
    obtain ⟨c156, hf⟩ := ck_t hf
    refine st_i hx hb hK hP hD hS 14 0 (sX6_14 _ _ _ _ _ _) (gX6_14 _ _ _ _) rfl c156 dX6_comes_156 (fun H locs hP hD hS => ?_)
    refine lv_aload_n hx hb dX6_comes_157 rfl (lv_at hl 0 rfl) ?_
    refine ld_f S iX6 hK hP 0 15 (.ref (A 14)) (gX6_0 _ _ _ _) rfl (by decide) k54 rfl rfl dX6_comes_158 ?_
    refine lv_iload hx hb dX6_comes_161 (lv_at hl 3 rfl) ?_
    obtain ⟨c163, hf⟩ := ck_t hf
    refine va_iald (f := (aS mm 15 x4 ((mm 15 x4.toNatClampNeg) + 1)) 15) hx hb hK hP 14 0 (gX6_14 _ _ _ _) rfl (inb_in c163) dX6_comes_163 ?_
    refine lv_aload_n hx hb dX6_comes_164 rfl (lv_at hl 0 rfl) ?_
    refine ld_f S iX6 hK hP 0 1 (.int (mm 1 0)) (gX6_0 _ _ _ _) rfl (by decide) k7 rfl rfl dX6_comes_165 ?_
    refine lv_icmp_le (tgt := 192) hx hb dX6_comes_168 (by decide) (fun c168 => ?_) (fun c168 => ?_)
    · have hf := if_t c168 hf
      refine lv_iconst (v := 0) hx hb dX6_comes_192 (by decide) ?_
      refine lv_istore (lv' := [(11, .int 0), (0, .ref (A 0)), (1, .int x1), (3, .int x3), (4, .int x4), (6, .int x6), (7, .int x7), (8, .int x8)]) hx hb dX6_comes_193 hl (by decide) rfl (fun ls hl => ?_)
      refine lv_iconst (v := 5) hx hb dX6_comes_195 (by decide) ?_
      refine lv_iload hx hb dX6_comes_196 (lv_at hl 7 rfl) ?_
      refine lv_imul hx hb dX6_comes_198 ?_
      refine lv_istore (lv' := [(12, .int (5 * x8)), (11, .int 0), (0, .ref (A 0)), (1, .int x1), (3, .int x3), (4, .int x4), (6, .int x6), (7, .int x7), (8, .int x8)]) hx hb dX6_comes_199 hl (by decide) rfl (fun ls hl => ?_)
      exact B201 _ _ _ _ _ _ _ _ _ hf H locs hP hD hS ls (lv_sub hl [2, 3, 4, 5, 6, 7, 8, 1, 0] rfl)
    · have hf := if_f c168 hf
      refine lv_aload_n hx hb dX6_comes_171 rfl (lv_at hl 0 rfl) ?_
      refine lv_iload hx hb dX6_comes_172 (lv_at hl 3 rfl) ?_
      obtain ⟨q174, h174, hf⟩ := bd_t hf
      refine cl_v (va_runV (As := [.int x4]) (rest := []) S (mX6_shuts l D cI cZ A (aS mm 15 x4 ((mm 15 x4.toNatClampNeg) + 1)) x4 H.size q174 h174) (cwV 1 hts gX6_comes_X6_shuts rfl rfl rfl (by decide +kernel) ⟨Nat.le_of_ble_eq_true rfl, Nat.le_of_ble_eq_true rfl⟩) (mP_V (ci := 6) (Cut.self _ []) hP hD hK hG rfl (gX6_0 _ _ _ _)) rfl rfl hl.1 rfl (lv_room (Nat.le_of_ble_eq_true rfl)) dX6_comes_174 ⟨Nat.le_refl _, Nat.le_refl _⟩) (Cut.self _ _) hP hD hS hA (fun H locs hP hD hS => ?_)
      refine lv_aload_n hx hb dX6_comes_177 rfl (lv_at hl 0 rfl) ?_
      refine ld_f S iX6 hK hP 0 11 (.ref (A 10)) (gX6_0 _ _ _ _) rfl (by decide) k42 rfl rfl dX6_comes_178 ?_
      refine lv_iload hx hb dX6_comes_181 (lv_at hl 3 rfl) ?_
      refine lv_aload_n hx hb dX6_comes_183 rfl (lv_at hl 0 rfl) ?_
      refine ld_f S iX6 hK hP 0 0 (.int (q174 0 0)) (gX6_0 _ _ _ _) rfl (by decide) k193 rfl rfl dX6_comes_184 ?_
      refine lv_iconst (v := 5) hx hb dX6_comes_187 (by decide) ?_
      refine lv_iadd hx hb dX6_comes_188 ?_
      obtain ⟨c189, hf⟩ := ck_t hf
      refine st_i hx hb hK hP hD hS 10 0 (sX6_10 _ _ _ _ _ _) (gX6_10 _ _ _ _) rfl c189 dX6_comes_189 (fun H locs hP hD hS => ?_)
      refine lv_iconst (v := 0) hx hb dX6_comes_190 (by decide) ?_
      exact hR _ ls H locs _ _ (congrArg (fun q => q.1) (Option.some.inj hf)) (congrArg (fun q => (wX6 cI cZ A (q.2))) (Option.some.inj hf)) rfl dX6_comes_191 hP hD hS
  have B99 : ∀ (mm : St) (x1 : Int32) (x3 : Int32) (x4 : Int32) (x6 : Int32) (x7 : Int32) (x8 : Int32) (y0 : Int32), fX6_comes_J99 mm x1 x3 x4 x6 x7 x8 y0 = some res → Bk p l e ({ frames := 3, cells := 0, slots := 0, locals := 67 }) s m args below meth c Q A0 D 13 0 0 (wX6 cI cZ A mm) [(0, .ref (A 0)), (1, .int x1), (3, .int x3), (4, .int x4), (6, .int x6), (7, .int x7), (8, .int x8)] 99 [.int y0] := by
    intro mm x1 x3 x4 x6 x7 x8 y0 hf
    unfold fX6_comes_J99 at hf
    intro H locs hP hD hS ls hl
    refine lv_istore (lv' := [(10, .int y0), (0, .ref (A 0)), (1, .int x1), (3, .int x3), (4, .int x4), (6, .int x6), (7, .int x7), (8, .int x8)]) hx hb dX6_comes_99 hl (by decide) rfl (fun ls hl => ?_)
    refine lv_iload hx hb dX6_comes_101 (lv_at hl 0 rfl) ?_
    refine lv_iconst (v := (-1)) hx hb dX6_comes_103 (by decide) ?_
    refine lv_icmp_eq (tgt := 146) hx hb dX6_comes_104 (by decide) (fun c104 => ?_) (fun c104 => ?_)
    · have hf := if_t c104 hf
      exact B146 _ _ _ _ _ _ _ hf H locs hP hD hS ls (lv_sub hl [1, 2, 3, 4, 5, 6, 7] rfl)
    · have hf := if_f c104 hf
      refine lv_aload_n hx hb dX6_comes_107 rfl (lv_at hl 1 rfl) ?_
      refine ld_f S iX6 hK hP 0 12 (.ref (A 11)) (gX6_0 _ _ _ _) rfl (by decide) k45 rfl rfl dX6_comes_108 ?_
      refine lv_iload hx hb dX6_comes_111 (lv_at hl 0 rfl) ?_
      obtain ⟨c113, hf⟩ := ck_t hf
      refine va_zald (f := mm 12) hx hb hK hP 11 1 (gX6_11 _ _ _ _) rfl (inb_in c113) dX6_comes_113 ?_
      refine lv_if_eq (tgt := 146) hx hb dX6_comes_114 (by decide) (fun c114 => ?_) (fun c114 => ?_)
      · have hf := if_t c114 hf
        exact B146 _ _ _ _ _ _ _ hf H locs hP hD hS ls (lv_sub hl [1, 2, 3, 4, 5, 6, 7] rfl)
      · have hf := if_f c114 hf
        refine lv_iload hx hb dX6_comes_117 (lv_at hl 0 rfl) ?_
        refine lv_iload hx hb dX6_comes_119 (lv_at hl 4 rfl) ?_
        refine lv_icmp_ne (tgt := 128) hx hb dX6_comes_121 (by decide) (fun c121 => ?_) (fun c121 => ?_)
        · have hf := if_f c121 hf
          refine lv_aload_n hx hb dX6_comes_128 rfl (lv_at hl 1 rfl) ?_
          refine lv_iload hx hb dX6_comes_129 (lv_at hl 0 rfl) ?_
          refine lv_iload hx hb dX6_comes_131 (lv_at hl 5 rfl) ?_
          refine lv_iload hx hb dX6_comes_133 (lv_at hl 6 rfl) ?_
          refine lv_aload_n hx hb dX6_comes_135 rfl (lv_at hl 1 rfl) ?_
          refine ld_f S iX6 hK hP 0 34 (.ref (A 33)) (gX6_0 _ _ _ _) rfl (by decide) k111 rfl rfl dX6_comes_136 ?_
          refine lv_iload_n hx hb dX6_comes_139 rfl (lv_at hl 2 rfl) ?_
          obtain ⟨c140, hf⟩ := ck_t hf
          refine va_iald (f := mm 34) hx hb hK hP 33 0 (gX6_33 _ _ _ _) rfl (inb_in c140) dX6_comes_140 ?_
          refine lv_iload_n hx hb dX6_comes_141 rfl (lv_at hl 3 rfl) ?_
          obtain ⟨q142, h142, hf⟩ := bd_t hf
          refine cl_i (va_runV (As := [.int y0, .int x6, .int x7, .int (mm 34 x1.toNatClampNeg), .int x3]) (rest := []) S (mX6_goesOut l D cI cZ A mm y0 x6 x7 (mm 34 x1.toNatClampNeg) x3 H.size q142 h142) (cwV 5 hts gX6_comes_X6_goesOut rfl rfl rfl (by decide +kernel) ⟨Nat.le_of_ble_eq_true rfl, Nat.le_of_ble_eq_true rfl⟩) (mP_V (ci := 6) (Cut.self _ []) hP hD hK hG rfl (gX6_0 _ _ _ _)) rfl rfl hl.1 rfl (lv_room (Nat.le_of_ble_eq_true rfl)) dX6_comes_142 ⟨Nat.le_refl _, Nat.le_refl _⟩) (Cut.self _ _) hP hD hS hA (fun H locs hP hD hS => ?_)
          exact hR _ ls H locs _ _ (congrArg (fun q => q.1) (Option.some.inj hf)) (congrArg (fun q => (wX6 cI cZ A (q.2))) (Option.some.inj hf)) rfl dX6_comes_145 hP hD hS
        · have hf := if_t c121 hf
          refine lv_iconst (v := 0) hx hb dX6_comes_124 (by decide) ?_
          refine lv_goto (tgt := 145) hx hb dX6_comes_125 (by decide) ?_
          exact hR _ ls H locs _ _ (congrArg (fun q => q.1) (Option.some.inj hf)) (congrArg (fun q => (wX6 cI cZ A (q.2))) (Option.some.inj hf)) rfl dX6_comes_145 hP hD hS
  have B75 : ∀ (mm : St) (x1 : Int32) (x3 : Int32) (x4 : Int32) (x6 : Int32) (x7 : Int32) (x8 : Int32) (y0 : Int32), fX6_comes_J75 mm x1 x3 x4 x6 x7 x8 y0 = some res → Bk p l e ({ frames := 3, cells := 0, slots := 0, locals := 67 }) s m args below meth c Q A0 D 13 0 0 (wX6 cI cZ A mm) [(0, .ref (A 0)), (1, .int x1), (3, .int x3), (4, .int x4), (6, .int x6), (7, .int x7), (8, .int x8)] 75 [.int y0] := by
    intro mm x1 x3 x4 x6 x7 x8 y0 hf
    unfold fX6_comes_J75 at hf
    intro H locs hP hD hS ls hl
    refine lv_istore (lv' := [(9, .int y0), (0, .ref (A 0)), (1, .int x1), (3, .int x3), (4, .int x4), (6, .int x6), (7, .int x7), (8, .int x8)]) hx hb dX6_comes_75 hl (by decide) rfl (fun ls hl => ?_)
    refine lv_iload hx hb dX6_comes_77 (lv_at hl 0 rfl) ?_
    refine lv_iconst (v := (-1)) hx hb dX6_comes_79 (by decide) ?_
    refine lv_icmp_ne (tgt := 87) hx hb dX6_comes_80 (by decide) (fun c80 => ?_) (fun c80 => ?_)
    · have hf := if_f c80 hf
      refine lv_iconst (v := 5) hx hb dX6_comes_87 (by decide) ?_
      refine lv_iload hx hb dX6_comes_88 (lv_at hl 7 rfl) ?_
      refine lv_imul hx hb dX6_comes_90 ?_
      refine lv_aload_n hx hb dX6_comes_91 rfl (lv_at hl 1 rfl) ?_
      refine ld_f S iX6 hK hP 0 27 (.ref (A 26)) (gX6_0 _ _ _ _) rfl (by decide) k90 rfl rfl dX6_comes_92 ?_
      refine lv_iload hx hb dX6_comes_95 (lv_at hl 0 rfl) ?_
      obtain ⟨c97, hf⟩ := ck_t hf
      refine va_iald (f := mm 27) hx hb hK hP 26 0 (gX6_26 _ _ _ _) rfl (inb_in c97) dX6_comes_97 ?_
      refine lv_iadd hx hb dX6_comes_98 ?_
      exact B99 _ _ _ _ _ _ _ _ hf H locs hP hD hS ls (lv_sub hl [1, 2, 3, 4, 5, 6, 7] rfl)
    · have hf := if_t c80 hf
      refine lv_iconst (v := (-1)) hx hb dX6_comes_83 (by decide) ?_
      refine lv_goto (tgt := 99) hx hb dX6_comes_84 (by decide) ?_
      exact B99 _ _ _ _ _ _ _ _ hf H locs hP hD hS ls (lv_sub hl [1, 2, 3, 4, 5, 6, 7] rfl)
  intro H locs hP hD hS ls hl
  have hl : lv_has ls 13 [(0, .ref (A 0)), (1, .int x1), (2, .int x2), (3, .int x3)] := hl
  unfold fX6_comes at hf
  refine lv_aload_n hx hb dX6_comes_0 rfl (lv_at hl 0 rfl) ?_
  refine ld_f S iX6 hK hP 0 31 (.ref (A 30)) (gX6_0 _ _ _ _) rfl (by decide) k102 rfl rfl dX6_comes_1 ?_
  refine lv_iload_n hx hb dX6_comes_4 rfl (lv_at hl 1 rfl) ?_
  obtain ⟨c5, hf⟩ := ck_t hf
  refine va_iald (f := mm 31) hx hb hK hP 30 0 (gX6_30 _ _ _ _) rfl (inb_in c5) dX6_comes_5 ?_
  refine lv_istore (lv' := [(4, .int (mm 31 x1.toNatClampNeg)), (0, .ref (A 0)), (1, .int x1), (2, .int x2), (3, .int x3)]) hx hb dX6_comes_6 hl (by decide) rfl (fun ls hl => ?_)
  refine lv_aload_n hx hb dX6_comes_8 rfl (lv_at hl 1 rfl) ?_
  refine ld_f S iX6 hK hP 0 32 (.ref (A 31)) (gX6_0 _ _ _ _) rfl (by decide) k105 rfl rfl dX6_comes_9 ?_
  refine lv_iload_n hx hb dX6_comes_12 rfl (lv_at hl 2 rfl) ?_
  obtain ⟨c13, hf⟩ := ck_t hf
  refine va_iald (f := mm 32) hx hb hK hP 31 0 (gX6_31 _ _ _ _) rfl (inb_in c13) dX6_comes_13 ?_
  refine lv_istore (lv' := [(5, .int (mm 32 x1.toNatClampNeg)), (4, .int (mm 31 x1.toNatClampNeg)), (0, .ref (A 0)), (1, .int x1), (2, .int x2), (3, .int x3)]) hx hb dX6_comes_14 hl (by decide) rfl (fun ls hl => ?_)
  refine lv_aload_n hx hb dX6_comes_16 rfl (lv_at hl 2 rfl) ?_
  refine lv_iload hx hb dX6_comes_17 (lv_at hl 1 rfl) ?_
  refine lv_iload hx hb dX6_comes_19 (lv_at hl 0 rfl) ?_
  obtain ⟨q21, h21, hf⟩ := bd_t hf
  refine cl_i (va_runV (As := [.int (mm 31 x1.toNatClampNeg), .int (mm 32 x1.toNatClampNeg)]) (rest := []) S (mX6_laneOf l D cI cZ A mm (mm 31 x1.toNatClampNeg) (mm 32 x1.toNatClampNeg) H.size q21 h21) (cwV 2 hts gX6_comes_X6_laneOf rfl rfl rfl (by decide +kernel) ⟨Nat.le_of_ble_eq_true rfl, Nat.le_of_ble_eq_true rfl⟩) (mP_V (ci := 6) (Cut.self _ []) hP hD hK hG rfl (gX6_0 _ _ _ _)) rfl rfl hl.1 rfl (lv_room (Nat.le_of_ble_eq_true rfl)) dX6_comes_21 ⟨Nat.le_refl _, Nat.le_refl _⟩) (Cut.self _ _) hP hD hS hA (fun H locs hP hD hS => ?_)
  refine lv_istore (lv' := [(6, .int q21), (5, .int (mm 32 x1.toNatClampNeg)), (4, .int (mm 31 x1.toNatClampNeg)), (0, .ref (A 0)), (1, .int x1), (2, .int x2), (3, .int x3)]) hx hb dX6_comes_24 hl (by decide) rfl (fun ls hl => ?_)
  refine lv_iload hx hb dX6_comes_26 (lv_at hl 0 rfl) ?_
  refine lv_if_ne (tgt := 33) hx hb dX6_comes_28 (by decide) (fun c28 => ?_) (fun c28 => ?_)
  · have hf := if_f c28 hf
    refine lv_aload_n hx hb dX6_comes_33 rfl (lv_at hl 3 rfl) ?_
    refine ld_f S iX6 hK hP 0 33 (.ref (A 32)) (gX6_0 _ _ _ _) rfl (by decide) k108 rfl rfl dX6_comes_34 ?_
    refine lv_iload_n hx hb dX6_comes_37 rfl (lv_at hl 4 rfl) ?_
    obtain ⟨c38, hf⟩ := ck_t hf
    refine va_iald (f := mm 33) hx hb hK hP 32 0 (gX6_32 _ _ _ _) rfl (inb_in c38) dX6_comes_38 ?_
    refine lv_istore (lv' := [(7, .int (mm 33 x1.toNatClampNeg)), (6, .int q21), (5, .int (mm 32 x1.toNatClampNeg)), (4, .int (mm 31 x1.toNatClampNeg)), (0, .ref (A 0)), (1, .int x1), (2, .int x2), (3, .int x3)]) hx hb dX6_comes_39 hl (by decide) rfl (fun ls hl => ?_)
    refine lv_iload hx hb dX6_comes_41 (lv_at hl 3 rfl) ?_
    refine lv_iconst (v := 5) hx hb dX6_comes_43 (by decide) ?_
    refine lv_idiv hx hb dX6_comes_44 (by decide) ?_
    refine lv_istore (lv' := [(8, .int ((mm 31 x1.toNatClampNeg) / 5)), (7, .int (mm 33 x1.toNatClampNeg)), (6, .int q21), (5, .int (mm 32 x1.toNatClampNeg)), (4, .int (mm 31 x1.toNatClampNeg)), (0, .ref (A 0)), (1, .int x1), (2, .int x2), (3, .int x3)]) hx hb dX6_comes_45 hl (by decide) rfl (fun ls hl => ?_)
    refine lv_aload_n hx hb dX6_comes_47 rfl (lv_at hl 5 rfl) ?_
    refine lv_iload hx hb dX6_comes_48 (lv_at hl 4 rfl) ?_
    refine lv_iload hx hb dX6_comes_50 (lv_at hl 2 rfl) ?_
    refine lv_iload_n hx hb dX6_comes_52 rfl (lv_at hl 7 rfl) ?_
    obtain ⟨q53, h53, hf⟩ := bd_t hf
    refine cl_v (va_runV (As := [.int (mm 31 x1.toNatClampNeg), .int q21, .int x2]) (rest := []) S (mX6_hears l D cI cZ A mm (mm 31 x1.toNatClampNeg) q21 x2 H.size q53 h53) (cwV 3 hts gX6_comes_X6_hears rfl rfl rfl (by decide +kernel) ⟨Nat.le_of_ble_eq_true rfl, Nat.le_of_ble_eq_true rfl⟩) (mP_V (ci := 6) (Cut.self _ []) hP hD hK hG rfl (gX6_0 _ _ _ _)) rfl rfl hl.1 rfl (lv_room (Nat.le_of_ble_eq_true rfl)) dX6_comes_53 ⟨Nat.le_refl _, Nat.le_refl _⟩) (Cut.self _ _) hP hD hS hA (fun H locs hP hD hS => ?_)
    refine lv_iload_n hx hb dX6_comes_56 rfl (lv_at hl 8 rfl) ?_
    refine lv_bipush (v := 10) hx hb dX6_comes_57 (by decide) ?_
    refine lv_icmp_ne (tgt := 66) hx hb dX6_comes_59 (by decide) (fun c59 => ?_) (fun c59 => ?_)
    · have hf := if_f c59 hf
      refine lv_aload_n hx hb dX6_comes_66 rfl (lv_at hl 5 rfl) ?_
      refine lv_iload hx hb dX6_comes_67 (lv_at hl 0 rfl) ?_
      refine lv_iload hx hb dX6_comes_69 (lv_at hl 2 rfl) ?_
      refine lv_iload_n hx hb dX6_comes_71 rfl (lv_at hl 8 rfl) ?_
      obtain ⟨q72, h72, hf⟩ := bd_t hf
      refine cl_i (va_runV (As := [.int ((mm 31 x1.toNatClampNeg) / 5), .int q21, .int x3]) (rest := []) S (mX6_find l D cI cZ A q53 ((mm 31 x1.toNatClampNeg) / 5) q21 x3 H.size q72 h72) (cwV 3 hts gX6_comes_X6_find rfl rfl rfl (by decide +kernel) ⟨Nat.le_of_ble_eq_true rfl, Nat.le_of_ble_eq_true rfl⟩) (mP_V (ci := 6) (Cut.self _ []) hP hD hK hG rfl (gX6_0 _ _ _ _)) rfl rfl hl.1 rfl (lv_room (Nat.le_of_ble_eq_true rfl)) dX6_comes_72 ⟨Nat.le_refl _, Nat.le_refl _⟩) (Cut.self _ _) hP hD hS hA (fun H locs hP hD hS => ?_)
      exact B75 _ _ _ _ _ _ _ _ hf H locs hP hD hS ls (lv_sub hl [5, 6, 8, 4, 2, 1, 0] rfl)
    · have hf := if_t c59 hf
      refine lv_iconst (v := (-1)) hx hb dX6_comes_62 (by decide) ?_
      refine lv_goto (tgt := 75) hx hb dX6_comes_63 (by decide) ?_
      exact B75 _ _ _ _ _ _ _ _ hf H locs hP hD hS ls (lv_sub hl [5, 6, 8, 4, 2, 1, 0] rfl)
  · have hf := if_t c28 hf
    refine lv_iconst (v := 0) hx hb dX6_comes_31 (by decide) ?_
    exact hR _ ls H locs _ _ (congrArg (fun q => q.1) (Option.some.inj hf)) (congrArg (fun q => (wX6 cI cZ A (q.2))) (Option.some.inj hf)) rfl dX6_comes_32 hP hD hS
set_option maxHeartbeats 4000000 in
set_option maxRecDepth 100000 in
theorem mX6_portOf (l : Launch) (D : va_G) (cI cZ : ClassId) (A : Nat → Nat)  (mm : St) (x1 : Int32) (sz : Nat) (res : Int32) (hf : fX6_portOf mm x1 = some res) : Met l yX6_portOf wsX6_portOf ({ frames := 0, cells := 0, slots := 0, locals := 0 }) (mP D (tysX cI cZ) [.ref (A 0), .int x1] (wX6 cI cZ A mm) sz) (mQi D res (wX6 cI cZ A mm) (wX6 cI cZ A mm) sz) 0 0 (va_A (wX6 cI cZ A mm) sz) := by
  refine mkM_i (cc := cX6_portOf) (maxL := 4) (own := RX6) (by decide +kernel) rfl rfl (Nat.le_of_ble_eq_true rfl) ?_
  intro p e s m args below meth c A0 Q S hK hG hA hR
  obtain ⟨hx, hb, hml, hown, hts⟩ := id S
  have k23 := hts (.fieldLink RX6 23 "SwitchFloorModel" "house" "[I") (by decide +kernel)
  have iX6 : ∀ w ∈ wsX60, w ∈ wsX6_portOf := by decide +kernel
  have B4 : ∀ (x1 : Int32) (x2 : Int32) (x3 : Int32), fX6_portOf_L4 mm x1 x2 x3 = some res → Bk p l e ({ frames := 0, cells := 0, slots := 0, locals := 0 }) s m args below meth c Q A0 D 4 0 0 (wX6 cI cZ A mm) [(0, .ref (A 0)), (1, .int x1), (2, .int x2), (3, .int x3)] 4 [] := by
    intro x1 x2 x3 hf
    refine loop_ind (step := (fun k a => fX6_portOf_S4 k mm x1 (a.1) (a.2))) (fun a => Bk p l e ({ frames := 0, cells := 0, slots := 0, locals := 0 }) s m args below meth c Q A0 D 4 0 0 (wX6 cI cZ A mm) [(0, .ref (A 0)), (1, .int x1), (2, .int (a.1)), (3, .int (a.2))] 4 []) ?_ _ _ hf
    clear hf
    intro k4 hk4 a hf
    obtain ⟨x2_, x3_⟩ := a
    clear x2 x3
    obtain ⟨x2, e_⟩ : ∃ z, z = x2_ := ⟨_, rfl⟩
    subst e_
    obtain ⟨x3, e_⟩ : ∃ z, z = x3_ := ⟨_, rfl⟩
    subst e_
    have hf : fX6_portOf_S4 k4 mm x1 x2 x3 = some res := hf
    show Bk p l e ({ frames := 0, cells := 0, slots := 0, locals := 0 }) s m args below meth c Q A0 D 4 0 0 (wX6 cI cZ A mm) [(0, .ref (A 0)), (1, .int x1), (2, .int x2), (3, .int x3)] 4 []
    unfold fX6_portOf_S4 at hf
    intro H locs hP hD hS ls hl
    refine lv_iload_n hx hb dX6_portOf_4 rfl (lv_at hl 3 rfl) ?_
    refine lv_bipush (v := 30) hx hb dX6_portOf_5 (by decide) ?_
    refine lv_icmp_ge (tgt := 32) hx hb dX6_portOf_7 (by decide) (fun c7 => ?_) (fun c7 => ?_)
    · have hf := if_t c7 hf
      refine lv_iload_n hx hb dX6_portOf_32 rfl (lv_at hl 2 rfl) ?_
      exact hR _ ls H locs _ _ (congrArg (fun q => q) (Option.some.inj hf)) rfl rfl dX6_portOf_33 hP hD hS
    · have hf := if_f c7 hf
      refine lv_aload_n hx hb dX6_portOf_10 rfl (lv_at hl 0 rfl) ?_
      refine ld_f S iX6 hK hP 0 5 (.ref (A 4)) (gX6_0 _ _ _ _) rfl (by decide) k23 rfl rfl dX6_portOf_11 ?_
      refine lv_iload_n hx hb dX6_portOf_14 rfl (lv_at hl 3 rfl) ?_
      obtain ⟨c15, hf⟩ := ck_t hf
      refine va_iald (f := mm 5) hx hb hK hP 4 0 (gX6_4 _ _ _ _) rfl (inb_in c15) dX6_portOf_15 ?_
      refine lv_iload_n hx hb dX6_portOf_16 rfl (lv_at hl 1 rfl) ?_
      refine lv_icmp_ne (tgt := 24) hx hb dX6_portOf_17 (by decide) (fun c17 => ?_) (fun c17 => ?_)
      · have hf := if_f c17 hf
        refine lv_iload_n hx hb dX6_portOf_24 rfl (lv_at hl 2 rfl) ?_
        refine lv_istore_n (lv' := [(2, .int x2), (0, .ref (A 0)), (1, .int x1), (3, .int x3)]) hx hb dX6_portOf_25 rfl hl (by decide) rfl (fun ls hl => ?_)
        refine lv_iinc (v := x3 + 1) (lv' := [(3, .int (x3 + 1)), (2, .int x2), (0, .ref (A 0)), (1, .int x1)]) hx hb dX6_portOf_26 hl (k := 3) rfl rfl (by decide) rfl (fun ls hl => ?_)
        refine lv_goto (tgt := 4) hx hb dX6_portOf_29 (by decide) ?_
        exact hk4 _ hf H locs hP hD hS ls (lv_sub hl [2, 3, 1, 0] rfl)
      · have hf := if_t c17 hf
        refine lv_iload_n hx hb dX6_portOf_20 rfl (lv_at hl 3 rfl) ?_
        refine lv_goto (tgt := 25) hx hb dX6_portOf_21 (by decide) ?_
        refine lv_istore_n (lv' := [(2, .int x3), (0, .ref (A 0)), (1, .int x1), (3, .int x3)]) hx hb dX6_portOf_25 rfl hl (by decide) rfl (fun ls hl => ?_)
        refine lv_iinc (v := x3 + 1) (lv' := [(3, .int (x3 + 1)), (2, .int x3), (0, .ref (A 0)), (1, .int x1)]) hx hb dX6_portOf_26 hl (k := 3) rfl rfl (by decide) rfl (fun ls hl => ?_)
        refine lv_goto (tgt := 4) hx hb dX6_portOf_29 (by decide) ?_
        exact hk4 _ hf H locs hP hD hS ls (lv_sub hl [2, 3, 1, 0] rfl)
  intro H locs hP hD hS ls hl
  have hl : lv_has ls 4 [(0, .ref (A 0)), (1, .int x1)] := hl
  unfold fX6_portOf at hf
  refine lv_iconst (v := (-1)) hx hb dX6_portOf_0 (by decide) ?_
  refine lv_istore_n (lv' := [(2, .int (-1)), (0, .ref (A 0)), (1, .int x1)]) hx hb dX6_portOf_1 rfl hl (by decide) rfl (fun ls hl => ?_)
  refine lv_iconst (v := 0) hx hb dX6_portOf_2 (by decide) ?_
  refine lv_istore_n (lv' := [(3, .int 0), (2, .int (-1)), (0, .ref (A 0)), (1, .int x1)]) hx hb dX6_portOf_3 rfl hl (by decide) rfl (fun ls hl => ?_)
  exact B4 _ _ _ hf H locs hP hD hS ls (lv_sub hl [2, 3, 1, 0] rfl)
set_option maxHeartbeats 4000000 in
set_option maxRecDepth 100000 in
theorem mX6_send (l : Launch) (D : va_G) (cI cZ : ClassId) (A : Nat → Nat)  (mm : St) (x1 : Int32) (x2 : Int32) (x3 : Int32) (x4 : Int32) (sz : Nat) (res : Int32 × St) (hf : fX6_send mm x1 x2 x3 x4 = some res) : Met l yX6_send wsX6_send ({ frames := 4, cells := 0, slots := 0, locals := 99 }) (mP D (tysX cI cZ) [.ref (A 0), .int x1, .int x2, .int x3, .int x4] (wX6 cI cZ A mm) sz) (mQi D res.1 (wX6 cI cZ A mm) (wX6 cI cZ A (res.2)) sz) 0 0 (va_A (wX6 cI cZ A mm) sz) := by
  refine mkM_i (cc := cX6_send) (maxL := 10) (own := RX6) (by decide +kernel) rfl rfl (Nat.le_of_ble_eq_true rfl) ?_
  intro p e s m args below meth c A0 Q S hK hG hA hR
  obtain ⟨hx, hb, hml, hown, hts⟩ := id S
  have k215 := hts (.fieldLink RX6 215 "SwitchFloorModel" "queued" "I") (by decide +kernel)
  have iX6 : ∀ w ∈ wsX60, w ∈ wsX6_send := by decide +kernel
  have B138 : ∀ (x1 : Int32) (x2 : Int32) (mm : St) (x8 : Int32) (x9 : Int32), fX6_send_L138 x1 x2 mm x8 x9 = some res → Bk p l e ({ frames := 4, cells := 0, slots := 0, locals := 99 }) s m args below meth c Q A0 D 10 0 0 (wX6 cI cZ A mm) [(0, .ref (A 0)), (1, .int x1), (2, .int x2), (8, .int x8), (9, .int x9)] 138 [] := by
    intro x1 x2 mm x8 x9 hf
    refine loop_ind (step := (fun k a => fX6_send_S138 k x1 x2 (a.1) (a.2.1) (a.2.2))) (fun a => Bk p l e ({ frames := 4, cells := 0, slots := 0, locals := 99 }) s m args below meth c Q A0 D 10 0 0 (wX6 cI cZ A (a.1)) [(0, .ref (A 0)), (1, .int x1), (2, .int x2), (8, .int (a.2.1)), (9, .int (a.2.2))] 138 []) ?_ _ _ hf
    clear hf
    intro k138 hk138 a hf
    obtain ⟨mm_, x8_, x9_⟩ := a
    clear mm x8 x9
    obtain ⟨mm, e_⟩ : ∃ z, z = mm_ := ⟨_, rfl⟩
    subst e_
    obtain ⟨x8, e_⟩ : ∃ z, z = x8_ := ⟨_, rfl⟩
    subst e_
    obtain ⟨x9, e_⟩ : ∃ z, z = x9_ := ⟨_, rfl⟩
    subst e_
    have hf : fX6_send_S138 k138 x1 x2 mm x8 x9 = some res := hf
    show Bk p l e ({ frames := 4, cells := 0, slots := 0, locals := 99 }) s m args below meth c Q A0 D 10 0 0 (wX6 cI cZ A mm) [(0, .ref (A 0)), (1, .int x1), (2, .int x2), (8, .int x8), (9, .int x9)] 138 []
    unfold fX6_send_S138 at hf
    intro H locs hP hD hS ls hl
    refine lv_iload hx hb dX6_send_138 (lv_at hl 4 rfl) ?_
    refine lv_aload_n hx hb dX6_send_140 rfl (lv_at hl 0 rfl) ?_
    refine ld_f S iX6 hK hP 0 35 (.int (mm 35 0)) (gX6_0 _ _ _ _) rfl (by decide) k215 rfl rfl dX6_send_141 ?_
    refine lv_icmp_ge (tgt := 174) hx hb dX6_send_144 (by decide) (fun c144 => ?_) (fun c144 => ?_)
    · have hf := if_t c144 hf
      refine lv_iload hx hb dX6_send_174 (lv_at hl 3 rfl) ?_
      exact hR _ ls H locs _ _ (congrArg (fun q => q.1) (Option.some.inj hf)) (congrArg (fun q => (wX6 cI cZ A (q.2))) (Option.some.inj hf)) rfl dX6_send_176 hP hD hS
    · have hf := if_f c144 hf
      refine lv_iload hx hb dX6_send_147 (lv_at hl 4 rfl) ?_
      refine lv_sipush (v := 400) hx hb dX6_send_149 (by decide) ?_
      refine lv_icmp_ge (tgt := 174) hx hb dX6_send_152 (by decide) (fun c152 => ?_) (fun c152 => ?_)
      · have hf := if_t c152 hf
        refine lv_iload hx hb dX6_send_174 (lv_at hl 3 rfl) ?_
        exact hR _ ls H locs _ _ (congrArg (fun q => q.1) (Option.some.inj hf)) (congrArg (fun q => (wX6 cI cZ A (q.2))) (Option.some.inj hf)) rfl dX6_send_176 hP hD hS
      · have hf := if_f c152 hf
        refine lv_iload hx hb dX6_send_155 (lv_at hl 3 rfl) ?_
        refine lv_aload_n hx hb dX6_send_157 rfl (lv_at hl 0 rfl) ?_
        refine lv_iload hx hb dX6_send_158 (lv_at hl 4 rfl) ?_
        refine lv_iload_n hx hb dX6_send_160 rfl (lv_at hl 1 rfl) ?_
        refine lv_iload_n hx hb dX6_send_161 rfl (lv_at hl 2 rfl) ?_
        obtain ⟨q162, h162, hf⟩ := bd_t hf
        refine cl_i (va_runV (As := [.int x9, .int x1, .int x2]) (rest := [.int x8]) S (mX6_comes l D cI cZ A mm x9 x1 x2 H.size q162 h162) (cwV 3 hts gX6_send_X6_comes rfl rfl rfl (by decide +kernel) ⟨Nat.le_of_ble_eq_true rfl, Nat.le_of_ble_eq_true rfl⟩) (mP_V (ci := 6) (Cut.self _ []) hP hD hK hG rfl (gX6_0 _ _ _ _)) rfl rfl hl.1 rfl (lv_room (Nat.le_of_ble_eq_true rfl)) dX6_send_162 ⟨Nat.le_refl _, Nat.le_refl _⟩) (Cut.self _ _) hP hD hS hA (fun H locs hP hD hS => ?_)
        refine lv_iadd hx hb dX6_send_165 ?_
        refine lv_istore (lv' := [(8, .int (x8 + q162.1)), (0, .ref (A 0)), (1, .int x1), (2, .int x2), (9, .int x9)]) hx hb dX6_send_166 hl (by decide) rfl (fun ls hl => ?_)
        refine lv_iinc (v := x9 + 1) (lv' := [(9, .int (x9 + 1)), (8, .int (x8 + q162.1)), (0, .ref (A 0)), (1, .int x1), (2, .int x2)]) hx hb dX6_send_168 hl (k := 4) rfl rfl (by decide) rfl (fun ls hl => ?_)
        refine lv_goto (tgt := 138) hx hb dX6_send_171 (by decide) ?_
        exact hk138 _ hf H locs hP hD hS ls (lv_sub hl [2, 3, 4, 1, 0] rfl)
  have B109 : ∀ (mm : St) (x1 : Int32) (x2 : Int32) (x3 : Int32) (x4 : Int32) (x7 : Int32) (y0 : Int32), fX6_send_J109 mm x1 x2 x3 x4 x7 y0 = some res → Bk p l e ({ frames := 4, cells := 0, slots := 0, locals := 99 }) s m args below meth c Q A0 D 10 0 0 (wX6 cI cZ A mm) [(0, .ref (A 0)), (1, .int x1), (2, .int x2), (3, .int x3), (4, .int x4), (7, .int x7)] 109 [.int y0, .ref (A 0)] := by
    intro mm x1 x2 x3 x4 x7 y0 hf
    unfold fX6_send_J109 at hf
    intro H locs hP hD hS ls hl
    obtain ⟨q109, h109, hf⟩ := bd_t hf
    refine cl_i (va_runV (As := [.int y0]) (rest := []) S (mX6_fails l D cI cZ A mm y0 H.size q109 h109) (cwV 1 hts gX6_send_X6_fails rfl rfl rfl (by decide +kernel) ⟨Nat.le_of_ble_eq_true rfl, Nat.le_of_ble_eq_true rfl⟩) (mP_V (ci := 6) (Cut.self _ []) hP hD hK hG rfl (gX6_0 _ _ _ _)) rfl rfl hl.1 rfl (lv_room (Nat.le_of_ble_eq_true rfl)) dX6_send_109 ⟨Nat.le_refl _, Nat.le_refl _⟩) (Cut.self _ _) hP hD hS hA (fun H locs hP hD hS => ?_)
    refine lv_if_eq (tgt := 117) hx hb dX6_send_112 (by decide) (fun c112 => ?_) (fun c112 => ?_)
    · have hf := if_t c112 hf
      refine lv_aload_n hx hb dX6_send_117 rfl (lv_at hl 0 rfl) ?_
      refine lv_iconst (v := 0) hx hb dX6_send_118 (by decide) ?_
      refine st_f S iX6 tyX6 tyX6_ok nmX6 hK hP hD hS 0 35 (sX6_0_35 _ _ _ _ _) (gX6_0 _ _ _ _) rfl (by decide) k215 rfl rfl (by decide +kernel) rfl dX6_send_119 (fun H locs hP hD hS => ?_)
      refine lv_aload_n hx hb dX6_send_122 rfl (lv_at hl 0 rfl) ?_
      refine lv_iload hx hb dX6_send_123 (lv_at hl 5 rfl) ?_
      refine lv_iload_n hx hb dX6_send_125 rfl (lv_at hl 3 rfl) ?_
      refine lv_iload hx hb dX6_send_126 (lv_at hl 4 rfl) ?_
      refine lv_iconst (v := 0) hx hb dX6_send_128 (by decide) ?_
      obtain ⟨q129, h129, hf⟩ := bd_t hf
      refine cl_v (va_runV (As := [.int x7, .int x3, .int x4, .int 0]) (rest := []) S (mX6_queues l D cI cZ A (iS (q109.2) 35 0) x7 x3 x4 0 H.size q129 h129) (cwV 4 hts gX6_send_X6_queues rfl rfl rfl (by decide +kernel) ⟨Nat.le_of_ble_eq_true rfl, Nat.le_of_ble_eq_true rfl⟩) (mP_V (ci := 6) (Cut.self _ []) hP hD hK hG rfl (gX6_0 _ _ _ _)) rfl rfl hl.1 rfl (lv_room (Nat.le_of_ble_eq_true rfl)) dX6_send_129 ⟨Nat.le_refl _, Nat.le_refl _⟩) (Cut.self _ _) hP hD hS hA (fun H locs hP hD hS => ?_)
      refine lv_iconst (v := 0) hx hb dX6_send_132 (by decide) ?_
      refine lv_istore (lv' := [(8, .int 0), (0, .ref (A 0)), (1, .int x1), (2, .int x2), (3, .int x3), (4, .int x4), (7, .int x7)]) hx hb dX6_send_133 hl (by decide) rfl (fun ls hl => ?_)
      refine lv_iconst (v := 0) hx hb dX6_send_135 (by decide) ?_
      refine lv_istore (lv' := [(9, .int 0), (8, .int 0), (0, .ref (A 0)), (1, .int x1), (2, .int x2), (3, .int x3), (4, .int x4), (7, .int x7)]) hx hb dX6_send_136 hl (by decide) rfl (fun ls hl => ?_)
      exact B138 _ _ _ _ _ hf H locs hP hD hS ls (lv_sub hl [2, 3, 4, 1, 0] rfl)
    · have hf := if_f c112 hf
      refine lv_iconst (v := 0) hx hb dX6_send_115 (by decide) ?_
      exact hR _ ls H locs _ _ (congrArg (fun q => q.1) (Option.some.inj hf)) (congrArg (fun q => (wX6 cI cZ A (q.2))) (Option.some.inj hf)) rfl dX6_send_116 hP hD hS
  have B77 : ∀ (mm : St) (x1 : Int32) (x2 : Int32) (x3 : Int32) (x4 : Int32) (x5 : Int32) (x6 : Int32) (y0 : Int32), fX6_send_J77 mm x1 x2 x3 x4 x5 x6 y0 = some res → Bk p l e ({ frames := 4, cells := 0, slots := 0, locals := 99 }) s m args below meth c Q A0 D 10 0 0 (wX6 cI cZ A mm) [(0, .ref (A 0)), (1, .int x1), (2, .int x2), (3, .int x3), (4, .int x4), (5, .int x5), (6, .int x6)] 77 [.int y0] := by
    intro mm x1 x2 x3 x4 x5 x6 y0 hf
    unfold fX6_send_J77 at hf
    intro H locs hP hD hS ls hl
    refine lv_istore (lv' := [(7, .int y0), (0, .ref (A 0)), (1, .int x1), (2, .int x2), (3, .int x3), (4, .int x4), (5, .int x5), (6, .int x6)]) hx hb dX6_send_77 hl (by decide) rfl (fun ls hl => ?_)
    refine lv_aload_n hx hb dX6_send_79 rfl (lv_at hl 1 rfl) ?_
    refine lv_iload hx hb dX6_send_80 (lv_at hl 6 rfl) ?_
    refine lv_if_ne (tgt := 89) hx hb dX6_send_82 (by decide) (fun c82 => ?_) (fun c82 => ?_)
    · have hf := if_f c82 hf
      refine lv_iload hx hb dX6_send_89 (lv_at hl 7 rfl) ?_
      refine lv_if_ne (tgt := 98) hx hb dX6_send_91 (by decide) (fun c91 => ?_) (fun c91 => ?_)
      · have hf := if_f c91 hf
        refine lv_iload hx hb dX6_send_98 (lv_at hl 0 rfl) ?_
        refine lv_iconst (v := (-1)) hx hb dX6_send_100 (by decide) ?_
        refine lv_icmp_ne (tgt := 108) hx hb dX6_send_101 (by decide) (fun c101 => ?_) (fun c101 => ?_)
        · have hf := if_f c101 hf
          refine lv_iconst (v := 0) hx hb dX6_send_108 (by decide) ?_
          exact B109 _ _ _ _ _ _ _ hf H locs hP hD hS ls (lv_sub hl [1, 2, 3, 4, 5, 0] rfl)
        · have hf := if_t c101 hf
          refine lv_iconst (v := 3) hx hb dX6_send_104 (by decide) ?_
          refine lv_goto (tgt := 109) hx hb dX6_send_105 (by decide) ?_
          exact B109 _ _ _ _ _ _ _ hf H locs hP hD hS ls (lv_sub hl [1, 2, 3, 4, 5, 0] rfl)
      · have hf := if_t c91 hf
        refine lv_iconst (v := 2) hx hb dX6_send_94 (by decide) ?_
        refine lv_goto (tgt := 109) hx hb dX6_send_95 (by decide) ?_
        exact B109 _ _ _ _ _ _ _ hf H locs hP hD hS ls (lv_sub hl [1, 2, 3, 4, 5, 0] rfl)
    · have hf := if_t c82 hf
      refine lv_iconst (v := 1) hx hb dX6_send_85 (by decide) ?_
      refine lv_goto (tgt := 109) hx hb dX6_send_86 (by decide) ?_
      exact B109 _ _ _ _ _ _ _ hf H locs hP hD hS ls (lv_sub hl [1, 2, 3, 4, 5, 0] rfl)
  have B61 : ∀ (mm : St) (x1 : Int32) (x2 : Int32) (x3 : Int32) (x4 : Int32) (x5 : Int32) (y0 : Int32), fX6_send_J61 mm x1 x2 x3 x4 x5 y0 = some res → Bk p l e ({ frames := 4, cells := 0, slots := 0, locals := 99 }) s m args below meth c Q A0 D 10 0 0 (wX6 cI cZ A mm) [(0, .ref (A 0)), (1, .int x1), (2, .int x2), (3, .int x3), (4, .int x4), (5, .int x5)] 61 [.int y0] := by
    intro mm x1 x2 x3 x4 x5 y0 hf
    unfold fX6_send_J61 at hf
    intro H locs hP hD hS ls hl
    refine lv_istore (lv' := [(6, .int y0), (0, .ref (A 0)), (1, .int x1), (2, .int x2), (3, .int x3), (4, .int x4), (5, .int x5)]) hx hb dX6_send_61 hl (by decide) rfl (fun ls hl => ?_)
    refine lv_iload hx hb dX6_send_63 (lv_at hl 6 rfl) ?_
    refine lv_if_eq (tgt := 76) hx hb dX6_send_65 (by decide) (fun c65 => ?_) (fun c65 => ?_)
    · have hf := if_t c65 hf
      refine lv_iconst (v := (-1)) hx hb dX6_send_76 (by decide) ?_
      exact B77 _ _ _ _ _ _ _ _ hf H locs hP hD hS ls (lv_sub hl [1, 2, 3, 4, 5, 6, 0] rfl)
    · have hf := if_f c65 hf
      refine lv_aload_n hx hb dX6_send_68 rfl (lv_at hl 1 rfl) ?_
      refine lv_iload_n hx hb dX6_send_69 rfl (lv_at hl 2 rfl) ?_
      obtain ⟨q70, h70, hf⟩ := bd_t hf
      refine cl_i (va_runV (As := [.int x1]) (rest := []) S (mX6_portOf l D cI cZ A mm x1 H.size q70 h70) (cwV 1 hts gX6_send_X6_portOf rfl rfl rfl (by decide +kernel) ⟨Nat.le_of_ble_eq_true rfl, Nat.le_of_ble_eq_true rfl⟩) (mP_V (ci := 6) (Cut.self _ []) hP hD hK hG rfl (gX6_0 _ _ _ _)) rfl rfl hl.1 rfl (lv_room (Nat.le_of_ble_eq_true rfl)) dX6_send_70 ⟨Nat.le_refl _, Nat.le_refl _⟩) (Cut.self _ _) hP hD hS hA (fun H locs hP hD hS => ?_)
      refine lv_goto (tgt := 77) hx hb dX6_send_73 (by decide) ?_
      exact B77 _ _ _ _ _ _ _ _ hf H locs hP hD hS ls (lv_sub hl [1, 2, 3, 4, 5, 6, 0] rfl)
  have B60 : ∀ (mm : St) (x1 : Int32) (x2 : Int32) (x3 : Int32) (x4 : Int32) (x5 : Int32), fX6_send_J60 mm x1 x2 x3 x4 x5 = some res → Bk p l e ({ frames := 4, cells := 0, slots := 0, locals := 99 }) s m args below meth c Q A0 D 10 0 0 (wX6 cI cZ A mm) [(0, .ref (A 0)), (1, .int x1), (2, .int x2), (3, .int x3), (4, .int x4), (5, .int x5)] 60 [] := by
    intro mm x1 x2 x3 x4 x5 hf
    unfold fX6_send_J60 at hf
    intro H locs hP hD hS ls hl
    refine lv_iconst (v := 0) hx hb dX6_send_60 (by decide) ?_
    exact B61 _ _ _ _ _ _ _ hf H locs hP hD hS ls (lv_sub hl [0, 1, 2, 3, 4, 5] rfl)
  have B50 : ∀ (mm : St) (x1 : Int32) (x2 : Int32) (x3 : Int32) (x4 : Int32) (x5 : Int32) (y0 : Int32) (y1 : Int32) (y2 : Int32), fX6_send_J50 mm x1 x2 x3 x4 x5 y0 y1 y2 = some res → Bk p l e ({ frames := 4, cells := 0, slots := 0, locals := 99 }) s m args below meth c Q A0 D 10 0 0 (wX6 cI cZ A mm) [(0, .ref (A 0)), (1, .int x1), (2, .int x2), (3, .int x3), (4, .int x4), (5, .int x5)] 50 [.int y0, .int y1, .int y2] := by
    intro mm x1 x2 x3 x4 x5 y0 y1 y2 hf
    unfold fX6_send_J50 at hf
    intro H locs hP hD hS ls hl
    obtain ⟨q50, h50, hf⟩ := bd_t hf
    refine cl_i (va_runS (As := [.int y2, .int y1, .int y0]) (rest := []) S (mX6_isIn l D cI cZ y2 y1 y0 H.size q50 h50) (va_cwS 3 hts gX6_send_X6_isIn rfl rfl rfl (by decide +kernel) ⟨Nat.le_of_ble_eq_true rfl, Nat.le_of_ble_eq_true rfl⟩) (mP_S (Cut.nil _) hP hD hK hG) rfl rfl hl.1 rfl (lv_room (Nat.le_of_ble_eq_true rfl)) dX6_send_50 ⟨Nat.le_refl _, Nat.le_refl _⟩) (Cut.nil _) hP hD hS hA (fun H locs hP hD hS => ?_)
    refine lv_if_eq (tgt := 60) hx hb dX6_send_53 (by decide) (fun c53 => ?_) (fun c53 => ?_)
    · have hf := if_t c53 hf
      exact B60 _ _ _ _ _ _ hf H locs hP hD hS ls (lv_sub hl [0, 1, 2, 3, 4, 5] rfl)
    · have hf := if_f c53 hf
      refine lv_iconst (v := 1) hx hb dX6_send_56 (by decide) ?_
      refine lv_goto (tgt := 61) hx hb dX6_send_57 (by decide) ?_
      exact B61 _ _ _ _ _ _ _ hf H locs hP hD hS ls (lv_sub hl [0, 1, 2, 3, 4, 5] rfl)
  have B22 : ∀ (mm : St) (x1 : Int32) (x2 : Int32) (x3 : Int32) (x4 : Int32) (y0 : Int32), fX6_send_J22 mm x1 x2 x3 x4 y0 = some res → Bk p l e ({ frames := 4, cells := 0, slots := 0, locals := 99 }) s m args below meth c Q A0 D 10 0 0 (wX6 cI cZ A mm) [(0, .ref (A 0)), (1, .int x1), (2, .int x2), (3, .int x3), (4, .int x4)] 22 [.int y0] := by
    intro mm x1 x2 x3 x4 y0 hf
    unfold fX6_send_J22 at hf
    intro H locs hP hD hS ls hl
    refine lv_istore (lv' := [(5, .int y0), (0, .ref (A 0)), (1, .int x1), (2, .int x2), (3, .int x3), (4, .int x4)]) hx hb dX6_send_22 hl (by decide) rfl (fun ls hl => ?_)
    refine lv_iload_n hx hb dX6_send_24 rfl (lv_at hl 2 rfl) ?_
    refine lv_iload_n hx hb dX6_send_25 rfl (lv_at hl 3 rfl) ?_
    refine lv_icmp_eq (tgt := 60) hx hb dX6_send_26 (by decide) (fun c26 => ?_) (fun c26 => ?_)
    · have hf := if_t c26 hf
      exact B60 _ _ _ _ _ _ hf H locs hP hD hS ls (lv_sub hl [1, 2, 3, 4, 5, 0] rfl)
    · have hf := if_f c26 hf
      refine lv_iload_n hx hb dX6_send_29 rfl (lv_at hl 4 rfl) ?_
      refine lv_iconst (v := 0) hx hb dX6_send_30 (by decide) ?_
      refine lv_iconst (v := 3) hx hb dX6_send_31 (by decide) ?_
      obtain ⟨q32, h32, hf⟩ := bd_t hf
      refine cl_i (va_runS (As := [.int x3, .int 0, .int 3]) (rest := []) S (mX6_isIn l D cI cZ x3 0 3 H.size q32 h32) (va_cwS 3 hts gX6_send_X6_isIn rfl rfl rfl (by decide +kernel) ⟨Nat.le_of_ble_eq_true rfl, Nat.le_of_ble_eq_true rfl⟩) (mP_S (Cut.nil _) hP hD hK hG) rfl rfl hl.1 rfl (lv_room (Nat.le_of_ble_eq_true rfl)) dX6_send_32 ⟨Nat.le_refl _, Nat.le_refl _⟩) (Cut.nil _) hP hD hS hA (fun H locs hP hD hS => ?_)
      refine lv_if_eq (tgt := 60) hx hb dX6_send_35 (by decide) (fun c35 => ?_) (fun c35 => ?_)
      · have hf := if_t c35 hf
        exact B60 _ _ _ _ _ _ hf H locs hP hD hS ls (lv_sub hl [1, 2, 3, 4, 5, 0] rfl)
      · have hf := if_f c35 hf
        refine lv_iload hx hb dX6_send_38 (lv_at hl 5 rfl) ?_
        refine lv_iconst (v := 0) hx hb dX6_send_40 (by decide) ?_
        refine lv_iload_n hx hb dX6_send_41 rfl (lv_at hl 4 rfl) ?_
        refine lv_if_ne (tgt := 49) hx hb dX6_send_42 (by decide) (fun c42 => ?_) (fun c42 => ?_)
        · have hf := if_f c42 hf
          refine lv_iconst (v := 3) hx hb dX6_send_49 (by decide) ?_
          exact B50 _ _ _ _ _ _ _ _ _ hf H locs hP hD hS ls (lv_sub hl [1, 2, 3, 4, 5, 0] rfl)
        · have hf := if_t c42 hf
          refine lv_iconst (v := 0) hx hb dX6_send_45 (by decide) ?_
          refine lv_goto (tgt := 50) hx hb dX6_send_46 (by decide) ?_
          exact B50 _ _ _ _ _ _ _ _ _ hf H locs hP hD hS ls (lv_sub hl [1, 2, 3, 4, 5, 0] rfl)
  have B21 : ∀ (mm : St) (x1 : Int32) (x2 : Int32) (x3 : Int32) (x4 : Int32), fX6_send_J21 mm x1 x2 x3 x4 = some res → Bk p l e ({ frames := 4, cells := 0, slots := 0, locals := 99 }) s m args below meth c Q A0 D 10 0 0 (wX6 cI cZ A mm) [(0, .ref (A 0)), (1, .int x1), (2, .int x2), (3, .int x3), (4, .int x4)] 21 [] := by
    intro mm x1 x2 x3 x4 hf
    unfold fX6_send_J21 at hf
    intro H locs hP hD hS ls hl
    refine lv_iconst (v := 0) hx hb dX6_send_21 (by decide) ?_
    exact B22 _ _ _ _ _ _ hf H locs hP hD hS ls (lv_sub hl [0, 1, 2, 3, 4] rfl)
  intro H locs hP hD hS ls hl
  have hl : lv_has ls 10 [(0, .ref (A 0)), (1, .int x1), (2, .int x2), (3, .int x3), (4, .int x4)] := hl
  unfold fX6_send at hf
  refine lv_iload_n hx hb dX6_send_0 rfl (lv_at hl 1 rfl) ?_
  obtain ⟨q1, h1, hf⟩ := bd_t hf
  refine cl_i (va_runS (As := [.int x1]) (rest := []) S (mX6_isHouse l D cI cZ x1 H.size q1 h1) (va_cwS 1 hts gX6_send_X6_isHouse rfl rfl rfl (by decide +kernel) ⟨Nat.le_of_ble_eq_true rfl, Nat.le_of_ble_eq_true rfl⟩) (mP_S (Cut.nil _) hP hD hK hG) rfl rfl hl.1 rfl (lv_room (Nat.le_of_ble_eq_true rfl)) dX6_send_1 ⟨Nat.le_refl _, Nat.le_refl _⟩) (Cut.nil _) hP hD hS hA (fun H locs hP hD hS => ?_)
  refine lv_if_eq (tgt := 21) hx hb dX6_send_4 (by decide) (fun c4 => ?_) (fun c4 => ?_)
  · have hf := if_t c4 hf
    exact B21 _ _ _ _ _ hf H locs hP hD hS ls (lv_sub hl [0, 1, 2, 3, 4] rfl)
  · have hf := if_f c4 hf
    refine lv_iload_n hx hb dX6_send_7 rfl (lv_at hl 2 rfl) ?_
    refine lv_iconst (v := 0) hx hb dX6_send_8 (by decide) ?_
    refine lv_bipush (v := 10) hx hb dX6_send_9 (by decide) ?_
    obtain ⟨q11, h11, hf⟩ := bd_t hf
    refine cl_i (va_runS (As := [.int x2, .int 0, .int 10]) (rest := []) S (mX6_isIn l D cI cZ x2 0 10 H.size q11 h11) (va_cwS 3 hts gX6_send_X6_isIn rfl rfl rfl (by decide +kernel) ⟨Nat.le_of_ble_eq_true rfl, Nat.le_of_ble_eq_true rfl⟩) (mP_S (Cut.nil _) hP hD hK hG) rfl rfl hl.1 rfl (lv_room (Nat.le_of_ble_eq_true rfl)) dX6_send_11 ⟨Nat.le_refl _, Nat.le_refl _⟩) (Cut.nil _) hP hD hS hA (fun H locs hP hD hS => ?_)
    refine lv_if_eq (tgt := 21) hx hb dX6_send_14 (by decide) (fun c14 => ?_) (fun c14 => ?_)
    · have hf := if_t c14 hf
      exact B21 _ _ _ _ _ hf H locs hP hD hS ls (lv_sub hl [0, 1, 2, 3, 4] rfl)
    · have hf := if_f c14 hf
      refine lv_iconst (v := 1) hx hb dX6_send_17 (by decide) ?_
      refine lv_goto (tgt := 22) hx hb dX6_send_18 (by decide) ?_
      exact B22 _ _ _ _ _ _ hf H locs hP hD hS ls (lv_sub hl [0, 1, 2, 3, 4] rfl)
set_option maxHeartbeats 4000000 in
set_option maxRecDepth 100000 in
theorem mX6_holds_ (l : Launch) (D : va_G) (cI cZ : ClassId) (A : Nat → Nat)  (mm : St) (x1 : Int32) (x2 : Int32) (sz : Nat) (res : Int32 × St) (hf : fX6_holds_ mm x1 x2 = some res) : Met l yX6_holds_ wsX6_holds_ ({ frames := 2, cells := 0, slots := 0, locals := 42 }) (mP D (tysX cI cZ) [.ref (A 0), .int x1, .int x2] (wX6 cI cZ A mm) sz) (mQi D res.1 (wX6 cI cZ A mm) (wX6 cI cZ A (res.2)) sz) 0 0 (va_A (wX6 cI cZ A mm) sz) := by
  refine mkM_i (cc := cX6_holds_) (maxL := 3) (own := RX6) (by decide +kernel) rfl rfl (Nat.le_of_ble_eq_true rfl) ?_
  intro p e s m args below meth c A0 Q S hK hG hA hR
  obtain ⟨hx, hb, hml, hown, hts⟩ := id S
  have k81 := hts (.fieldLink RX6 81 "SwitchFloorModel" "entries" "[I") (by decide +kernel)
  have iX6 : ∀ w ∈ wsX60, w ∈ wsX6_holds_ := by decide +kernel
  have k66 := hts (.fieldLink RX6 66 "SwitchFloorModel" "rootPort" "[I") (by decide +kernel)
  have k63 := hts (.fieldLink RX6 63 "SwitchFloorModel" "hops" "[I") (by decide +kernel)
  have k60 := hts (.fieldLink RX6 60 "SwitchFloorModel" "far" "[I") (by decide +kernel)
  have k57 := hts (.fieldLink RX6 57 "SwitchFloorModel" "root" "[I") (by decide +kernel)
  have B26 : ∀ (mm : St) (x1 : Int32) (x2 : Int32) (y0 : Int32), fX6_holds__J26 mm x1 x2 y0 = some res → Bk p l e ({ frames := 2, cells := 0, slots := 0, locals := 42 }) s m args below meth c Q A0 D 3 0 0 (wX6 cI cZ A mm) [(0, .ref (A 0)), (1, .int x1), (2, .int x2)] 26 [.int y0, .ref (A 0)] := by
    intro mm x1 x2 y0 hf
    unfold fX6_holds__J26 at hf
    intro H locs hP hD hS ls hl
    obtain ⟨q26, h26, hf⟩ := bd_t hf
    refine cl_i (va_runV (As := [.int y0]) (rest := []) S (mX6_fails l D cI cZ A mm y0 H.size q26 h26) (cwV 1 hts gX6_holds__X6_fails rfl rfl rfl (by decide +kernel) ⟨Nat.le_of_ble_eq_true rfl, Nat.le_of_ble_eq_true rfl⟩) (mP_V (ci := 6) (Cut.self _ []) hP hD hK hG rfl (gX6_0 _ _ _ _)) rfl rfl hl.1 rfl (lv_room (Nat.le_of_ble_eq_true rfl)) dX6_holds__26 ⟨Nat.le_refl _, Nat.le_refl _⟩) (Cut.self _ _) hP hD hS hA (fun H locs hP hD hS => ?_)
    refine lv_if_eq (tgt := 34) hx hb dX6_holds__29 (by decide) (fun c29 => ?_) (fun c29 => ?_)
    · have hf := if_t c29 hf
      refine lv_iload_n hx hb dX6_holds__34 rfl (lv_at hl 2 rfl) ?_
      refine lv_if_ne (tgt := 47) hx hb dX6_holds__35 (by decide) (fun c35 => ?_) (fun c35 => ?_)
      · have hf := if_f c35 hf
        refine lv_iload_n hx hb dX6_holds__47 rfl (lv_at hl 2 rfl) ?_
        refine lv_iconst (v := 1) hx hb dX6_holds__48 (by decide) ?_
        refine lv_icmp_ne (tgt := 61) hx hb dX6_holds__49 (by decide) (fun c49 => ?_) (fun c49 => ?_)
        · have hf := if_f c49 hf
          refine lv_iload_n hx hb dX6_holds__61 rfl (lv_at hl 2 rfl) ?_
          refine lv_iconst (v := 2) hx hb dX6_holds__62 (by decide) ?_
          refine lv_icmp_ne (tgt := 75) hx hb dX6_holds__63 (by decide) (fun c63 => ?_) (fun c63 => ?_)
          · have hf := if_f c63 hf
            refine lv_iload_n hx hb dX6_holds__75 rfl (lv_at hl 2 rfl) ?_
            refine lv_iconst (v := 3) hx hb dX6_holds__76 (by decide) ?_
            refine lv_icmp_ne (tgt := 105) hx hb dX6_holds__77 (by decide) (fun c77 => ?_) (fun c77 => ?_)
            · have hf := if_f c77 hf
              refine lv_aload_n hx hb dX6_holds__105 rfl (lv_at hl 0 rfl) ?_
              refine ld_f S iX6 hK hP 0 24 (.ref (A 23)) (gX6_0 _ _ _ _) rfl (by decide) k81 rfl rfl dX6_holds__106 ?_
              refine lv_iload_n hx hb dX6_holds__109 rfl (lv_at hl 1 rfl) ?_
              obtain ⟨c110, hf⟩ := ck_t hf
              refine va_iald (f := (q26.2) 24) hx hb hK hP 23 0 (gX6_23 _ _ _ _) rfl (inb_in c110) dX6_holds__110 ?_
              exact hR _ ls H locs _ _ (congrArg (fun q => q.1) (Option.some.inj hf)) (congrArg (fun q => (wX6 cI cZ A (q.2))) (Option.some.inj hf)) rfl dX6_holds__111 hP hD hS
            · have hf := if_t c77 hf
              refine lv_aload_n hx hb dX6_holds__80 rfl (lv_at hl 0 rfl) ?_
              refine ld_f S iX6 hK hP 0 19 (.ref (A 18)) (gX6_0 _ _ _ _) rfl (by decide) k66 rfl rfl dX6_holds__81 ?_
              refine lv_iload_n hx hb dX6_holds__84 rfl (lv_at hl 1 rfl) ?_
              obtain ⟨c85, hf⟩ := ck_t hf
              refine va_iald (f := (q26.2) 19) hx hb hK hP 18 0 (gX6_18 _ _ _ _) rfl (inb_in c85) dX6_holds__85 ?_
              refine lv_iconst (v := (-1)) hx hb dX6_holds__86 (by decide) ?_
              refine lv_icmp_ne (tgt := 94) hx hb dX6_holds__87 (by decide) (fun c87 => ?_) (fun c87 => ?_)
              · have hf := if_f c87 hf
                refine lv_aload_n hx hb dX6_holds__94 rfl (lv_at hl 0 rfl) ?_
                refine ld_f S iX6 hK hP 0 19 (.ref (A 18)) (gX6_0 _ _ _ _) rfl (by decide) k66 rfl rfl dX6_holds__95 ?_
                refine lv_iload_n hx hb dX6_holds__98 rfl (lv_at hl 1 rfl) ?_
                obtain ⟨c99, hf⟩ := ck_t hf
                refine va_iald (f := (q26.2) 19) hx hb hK hP 18 0 (gX6_18 _ _ _ _) rfl (inb_in c99) dX6_holds__99 ?_
                refine lv_iconst (v := 5) hx hb dX6_holds__100 (by decide) ?_
                refine lv_irem hx hb dX6_holds__101 (by decide) ?_
                refine lv_goto (tgt := 111) hx hb dX6_holds__102 (by decide) ?_
                exact hR _ ls H locs _ _ (congrArg (fun q => q.1) (Option.some.inj hf)) (congrArg (fun q => (wX6 cI cZ A (q.2))) (Option.some.inj hf)) rfl dX6_holds__111 hP hD hS
              · have hf := if_t c87 hf
                refine lv_iconst (v := (-1)) hx hb dX6_holds__90 (by decide) ?_
                refine lv_goto (tgt := 111) hx hb dX6_holds__91 (by decide) ?_
                exact hR _ ls H locs _ _ (congrArg (fun q => q.1) (Option.some.inj hf)) (congrArg (fun q => (wX6 cI cZ A (q.2))) (Option.some.inj hf)) rfl dX6_holds__111 hP hD hS
          · have hf := if_t c63 hf
            refine lv_aload_n hx hb dX6_holds__66 rfl (lv_at hl 0 rfl) ?_
            refine ld_f S iX6 hK hP 0 18 (.ref (A 17)) (gX6_0 _ _ _ _) rfl (by decide) k63 rfl rfl dX6_holds__67 ?_
            refine lv_iload_n hx hb dX6_holds__70 rfl (lv_at hl 1 rfl) ?_
            obtain ⟨c71, hf⟩ := ck_t hf
            refine va_iald (f := (q26.2) 18) hx hb hK hP 17 0 (gX6_17 _ _ _ _) rfl (inb_in c71) dX6_holds__71 ?_
            refine lv_goto (tgt := 111) hx hb dX6_holds__72 (by decide) ?_
            exact hR _ ls H locs _ _ (congrArg (fun q => q.1) (Option.some.inj hf)) (congrArg (fun q => (wX6 cI cZ A (q.2))) (Option.some.inj hf)) rfl dX6_holds__111 hP hD hS
        · have hf := if_t c49 hf
          refine lv_aload_n hx hb dX6_holds__52 rfl (lv_at hl 0 rfl) ?_
          refine ld_f S iX6 hK hP 0 17 (.ref (A 16)) (gX6_0 _ _ _ _) rfl (by decide) k60 rfl rfl dX6_holds__53 ?_
          refine lv_iload_n hx hb dX6_holds__56 rfl (lv_at hl 1 rfl) ?_
          obtain ⟨c57, hf⟩ := ck_t hf
          refine va_iald (f := (q26.2) 17) hx hb hK hP 16 0 (gX6_16 _ _ _ _) rfl (inb_in c57) dX6_holds__57 ?_
          refine lv_goto (tgt := 111) hx hb dX6_holds__58 (by decide) ?_
          exact hR _ ls H locs _ _ (congrArg (fun q => q.1) (Option.some.inj hf)) (congrArg (fun q => (wX6 cI cZ A (q.2))) (Option.some.inj hf)) rfl dX6_holds__111 hP hD hS
      · have hf := if_t c35 hf
        refine lv_aload_n hx hb dX6_holds__38 rfl (lv_at hl 0 rfl) ?_
        refine ld_f S iX6 hK hP 0 16 (.ref (A 15)) (gX6_0 _ _ _ _) rfl (by decide) k57 rfl rfl dX6_holds__39 ?_
        refine lv_iload_n hx hb dX6_holds__42 rfl (lv_at hl 1 rfl) ?_
        obtain ⟨c43, hf⟩ := ck_t hf
        refine va_iald (f := (q26.2) 16) hx hb hK hP 15 0 (gX6_15 _ _ _ _) rfl (inb_in c43) dX6_holds__43 ?_
        refine lv_goto (tgt := 111) hx hb dX6_holds__44 (by decide) ?_
        exact hR _ ls H locs _ _ (congrArg (fun q => q.1) (Option.some.inj hf)) (congrArg (fun q => (wX6 cI cZ A (q.2))) (Option.some.inj hf)) rfl dX6_holds__111 hP hD hS
    · have hf := if_f c29 hf
      refine lv_iconst (v := 0) hx hb dX6_holds__32 (by decide) ?_
      exact hR _ ls H locs _ _ (congrArg (fun q => q.1) (Option.some.inj hf)) (congrArg (fun q => (wX6 cI cZ A (q.2))) (Option.some.inj hf)) rfl dX6_holds__33 hP hD hS
  intro H locs hP hD hS ls hl
  have hl : lv_has ls 3 [(0, .ref (A 0)), (1, .int x1), (2, .int x2)] := hl
  unfold fX6_holds_ at hf
  refine lv_aload_n hx hb dX6_holds__0 rfl (lv_at hl 0 rfl) ?_
  refine lv_iload_n hx hb dX6_holds__1 rfl (lv_at hl 1 rfl) ?_
  obtain ⟨q2, h2, hf⟩ := bd_t hf
  refine cl_i (va_runS (As := [.int x1]) (rest := [.ref (A 0)]) S (mX6_isSwitch l D cI cZ x1 H.size q2 h2) (va_cwS 1 hts gX6_holds__X6_isSwitch rfl rfl rfl (by decide +kernel) ⟨Nat.le_of_ble_eq_true rfl, Nat.le_of_ble_eq_true rfl⟩) (mP_S (Cut.nil _) hP hD hK hG) rfl rfl hl.1 rfl (lv_room (Nat.le_of_ble_eq_true rfl)) dX6_holds__2 ⟨Nat.le_refl _, Nat.le_refl _⟩) (Cut.nil _) hP hD hS hA (fun H locs hP hD hS => ?_)
  refine lv_if_ne (tgt := 12) hx hb dX6_holds__5 (by decide) (fun c5 => ?_) (fun c5 => ?_)
  · have hf := if_f c5 hf
    refine lv_iload_n hx hb dX6_holds__12 rfl (lv_at hl 2 rfl) ?_
    refine lv_iconst (v := 0) hx hb dX6_holds__13 (by decide) ?_
    refine lv_iconst (v := 4) hx hb dX6_holds__14 (by decide) ?_
    obtain ⟨q15, h15, hf⟩ := bd_t hf
    refine cl_i (va_runS (As := [.int x2, .int 0, .int 4]) (rest := [.ref (A 0)]) S (mX6_isIn l D cI cZ x2 0 4 H.size q15 h15) (va_cwS 3 hts gX6_holds__X6_isIn rfl rfl rfl (by decide +kernel) ⟨Nat.le_of_ble_eq_true rfl, Nat.le_of_ble_eq_true rfl⟩) (mP_S (Cut.nil _) hP hD hK hG) rfl rfl hl.1 rfl (lv_room (Nat.le_of_ble_eq_true rfl)) dX6_holds__15 ⟨Nat.le_refl _, Nat.le_refl _⟩) (Cut.nil _) hP hD hS hA (fun H locs hP hD hS => ?_)
    refine lv_if_eq (tgt := 25) hx hb dX6_holds__18 (by decide) (fun c18 => ?_) (fun c18 => ?_)
    · have hf := if_t c18 hf
      refine lv_iconst (v := 2) hx hb dX6_holds__25 (by decide) ?_
      exact B26 _ _ _ _ hf H locs hP hD hS ls (lv_sub hl [0, 1, 2] rfl)
    · have hf := if_f c18 hf
      refine lv_iconst (v := 0) hx hb dX6_holds__21 (by decide) ?_
      refine lv_goto (tgt := 26) hx hb dX6_holds__22 (by decide) ?_
      exact B26 _ _ _ _ hf H locs hP hD hS ls (lv_sub hl [0, 1, 2] rfl)
  · have hf := if_t c5 hf
    refine lv_iconst (v := 1) hx hb dX6_holds__8 (by decide) ?_
    refine lv_goto (tgt := 26) hx hb dX6_holds__9 (by decide) ?_
    exact B26 _ _ _ _ hf H locs hP hD hS ls (lv_sub hl [0, 1, 2] rfl)
set_option maxHeartbeats 4000000 in
set_option maxRecDepth 100000 in
theorem mX6_port (l : Launch) (D : va_G) (cI cZ : ClassId) (A : Nat → Nat)  (mm : St) (x1 : Int32) (x2 : Int32) (x3 : Int32) (sz : Nat) (res : Int32 × St) (hf : fX6_port mm x1 x2 x3 = some res) : Met l yX6_port wsX6_port ({ frames := 3, cells := 0, slots := 0, locals := 63 }) (mP D (tysX cI cZ) [.ref (A 0), .int x1, .int x2, .int x3] (wX6 cI cZ A mm) sz) (mQi D res.1 (wX6 cI cZ A mm) (wX6 cI cZ A (res.2)) sz) 0 0 (va_A (wX6 cI cZ A mm) sz) := by
  refine mkM_i (cc := cX6_port) (maxL := 5) (own := RX6) (by decide +kernel) rfl rfl (Nat.le_of_ble_eq_true rfl) ?_
  intro p e s m args below meth c A0 Q S hK hG hA hR
  obtain ⟨hx, hb, hml, hown, hts⟩ := id S
  have k54 := hts (.fieldLink RX6 54 "SwitchFloorModel" "floods" "[I") (by decide +kernel)
  have iX6 : ∀ w ∈ wsX60, w ∈ wsX6_port := by decide +kernel
  have k39 := hts (.fieldLink RX6 39 "SwitchFloorModel" "isShut" "[Z") (by decide +kernel)
  have k48 := hts (.fieldLink RX6 48 "SwitchFloorModel" "role" "[I") (by decide +kernel)
  have k45 := hts (.fieldLink RX6 45 "SwitchFloorModel" "isOpen" "[Z") (by decide +kernel)
  have B27 : ∀ (mm : St) (x1 : Int32) (x2 : Int32) (x3 : Int32) (y0 : Int32), fX6_port_J27 mm x1 x2 x3 y0 = some res → Bk p l e ({ frames := 3, cells := 0, slots := 0, locals := 63 }) s m args below meth c Q A0 D 5 0 0 (wX6 cI cZ A mm) [(0, .ref (A 0)), (1, .int x1), (2, .int x2), (3, .int x3)] 27 [.int y0, .ref (A 0)] := by
    intro mm x1 x2 x3 y0 hf
    unfold fX6_port_J27 at hf
    intro H locs hP hD hS ls hl
    obtain ⟨q27, h27, hf⟩ := bd_t hf
    refine cl_i (va_runV (As := [.int y0]) (rest := []) S (mX6_fails l D cI cZ A mm y0 H.size q27 h27) (cwV 1 hts gX6_port_X6_fails rfl rfl rfl (by decide +kernel) ⟨Nat.le_of_ble_eq_true rfl, Nat.le_of_ble_eq_true rfl⟩) (mP_V (ci := 6) (Cut.self _ []) hP hD hK hG rfl (gX6_0 _ _ _ _)) rfl rfl hl.1 rfl (lv_room (Nat.le_of_ble_eq_true rfl)) dX6_port_27 ⟨Nat.le_refl _, Nat.le_refl _⟩) (Cut.self _ _) hP hD hS hA (fun H locs hP hD hS => ?_)
    refine lv_if_eq (tgt := 35) hx hb dX6_port_30 (by decide) (fun c30 => ?_) (fun c30 => ?_)
    · have hf := if_t c30 hf
      refine lv_iconst (v := 5) hx hb dX6_port_35 (by decide) ?_
      refine lv_iload_n hx hb dX6_port_36 rfl (lv_at hl 1 rfl) ?_
      refine lv_imul hx hb dX6_port_37 ?_
      refine lv_iload_n hx hb dX6_port_38 rfl (lv_at hl 2 rfl) ?_
      refine lv_iadd hx hb dX6_port_39 ?_
      refine lv_istore (lv' := [(4, .int ((5 * x1) + x2)), (0, .ref (A 0)), (1, .int x1), (2, .int x2), (3, .int x3)]) hx hb dX6_port_40 hl (by decide) rfl (fun ls hl => ?_)
      refine lv_iload_n hx hb dX6_port_42 rfl (lv_at hl 4 rfl) ?_
      refine lv_if_ne (tgt := 64) hx hb dX6_port_43 (by decide) (fun c43 => ?_) (fun c43 => ?_)
      · have hf := if_f c43 hf
        refine lv_iload_n hx hb dX6_port_64 rfl (lv_at hl 4 rfl) ?_
        refine lv_iconst (v := 1) hx hb dX6_port_65 (by decide) ?_
        refine lv_icmp_ne (tgt := 79) hx hb dX6_port_66 (by decide) (fun c66 => ?_) (fun c66 => ?_)
        · have hf := if_f c66 hf
          refine lv_iload_n hx hb dX6_port_79 rfl (lv_at hl 4 rfl) ?_
          refine lv_iconst (v := 2) hx hb dX6_port_80 (by decide) ?_
          refine lv_icmp_ne (tgt := 102) hx hb dX6_port_81 (by decide) (fun c81 => ?_) (fun c81 => ?_)
          · have hf := if_f c81 hf
            refine lv_aload_n hx hb dX6_port_102 rfl (lv_at hl 1 rfl) ?_
            refine ld_f S iX6 hK hP 0 15 (.ref (A 14)) (gX6_0 _ _ _ _) rfl (by decide) k54 rfl rfl dX6_port_103 ?_
            refine lv_iload hx hb dX6_port_106 (lv_at hl 0 rfl) ?_
            obtain ⟨c108, hf⟩ := ck_t hf
            refine va_iald (f := (q27.2) 15) hx hb hK hP 14 0 (gX6_14 _ _ _ _) rfl (inb_in c108) dX6_port_108 ?_
            exact hR _ ls H locs _ _ (congrArg (fun q => q.1) (Option.some.inj hf)) (congrArg (fun q => (wX6 cI cZ A (q.2))) (Option.some.inj hf)) rfl dX6_port_109 hP hD hS
          · have hf := if_t c81 hf
            refine lv_aload_n hx hb dX6_port_84 rfl (lv_at hl 1 rfl) ?_
            refine ld_f S iX6 hK hP 0 10 (.ref (A 9)) (gX6_0 _ _ _ _) rfl (by decide) k39 rfl rfl dX6_port_85 ?_
            refine lv_iload hx hb dX6_port_88 (lv_at hl 0 rfl) ?_
            obtain ⟨c90, hf⟩ := ck_t hf
            refine va_zald (f := (q27.2) 10) hx hb hK hP 9 1 (gX6_9 _ _ _ _) rfl (inb_in c90) dX6_port_90 ?_
            refine lv_if_eq (tgt := 98) hx hb dX6_port_91 (by decide) (fun c91 => ?_) (fun c91 => ?_)
            · have hf := if_t c91 hf
              refine lv_iconst (v := 0) hx hb dX6_port_98 (by decide) ?_
              refine lv_goto (tgt := 109) hx hb dX6_port_99 (by decide) ?_
              exact hR _ ls H locs _ _ (congrArg (fun q => q.1) (Option.some.inj hf)) (congrArg (fun q => (wX6 cI cZ A (q.2))) (Option.some.inj hf)) rfl dX6_port_109 hP hD hS
            · have hf := if_f c91 hf
              refine lv_iconst (v := 1) hx hb dX6_port_94 (by decide) ?_
              refine lv_goto (tgt := 109) hx hb dX6_port_95 (by decide) ?_
              exact hR _ ls H locs _ _ (congrArg (fun q => q.1) (Option.some.inj hf)) (congrArg (fun q => (wX6 cI cZ A (q.2))) (Option.some.inj hf)) rfl dX6_port_109 hP hD hS
        · have hf := if_t c66 hf
          refine lv_aload_n hx hb dX6_port_69 rfl (lv_at hl 1 rfl) ?_
          refine ld_f S iX6 hK hP 0 13 (.ref (A 12)) (gX6_0 _ _ _ _) rfl (by decide) k48 rfl rfl dX6_port_70 ?_
          refine lv_iload hx hb dX6_port_73 (lv_at hl 0 rfl) ?_
          obtain ⟨c75, hf⟩ := ck_t hf
          refine va_iald (f := (q27.2) 13) hx hb hK hP 12 0 (gX6_12 _ _ _ _) rfl (inb_in c75) dX6_port_75 ?_
          refine lv_goto (tgt := 109) hx hb dX6_port_76 (by decide) ?_
          exact hR _ ls H locs _ _ (congrArg (fun q => q.1) (Option.some.inj hf)) (congrArg (fun q => (wX6 cI cZ A (q.2))) (Option.some.inj hf)) rfl dX6_port_109 hP hD hS
      · have hf := if_t c43 hf
        refine lv_aload_n hx hb dX6_port_46 rfl (lv_at hl 1 rfl) ?_
        refine ld_f S iX6 hK hP 0 12 (.ref (A 11)) (gX6_0 _ _ _ _) rfl (by decide) k45 rfl rfl dX6_port_47 ?_
        refine lv_iload hx hb dX6_port_50 (lv_at hl 0 rfl) ?_
        obtain ⟨c52, hf⟩ := ck_t hf
        refine va_zald (f := (q27.2) 12) hx hb hK hP 11 1 (gX6_11 _ _ _ _) rfl (inb_in c52) dX6_port_52 ?_
        refine lv_if_eq (tgt := 60) hx hb dX6_port_53 (by decide) (fun c53 => ?_) (fun c53 => ?_)
        · have hf := if_t c53 hf
          refine lv_iconst (v := 0) hx hb dX6_port_60 (by decide) ?_
          refine lv_goto (tgt := 109) hx hb dX6_port_61 (by decide) ?_
          exact hR _ ls H locs _ _ (congrArg (fun q => q.1) (Option.some.inj hf)) (congrArg (fun q => (wX6 cI cZ A (q.2))) (Option.some.inj hf)) rfl dX6_port_109 hP hD hS
        · have hf := if_f c53 hf
          refine lv_iconst (v := 1) hx hb dX6_port_56 (by decide) ?_
          refine lv_goto (tgt := 109) hx hb dX6_port_57 (by decide) ?_
          exact hR _ ls H locs _ _ (congrArg (fun q => q.1) (Option.some.inj hf)) (congrArg (fun q => (wX6 cI cZ A (q.2))) (Option.some.inj hf)) rfl dX6_port_109 hP hD hS
    · have hf := if_f c30 hf
      refine lv_iconst (v := 0) hx hb dX6_port_33 (by decide) ?_
      exact hR _ ls H locs _ _ (congrArg (fun q => q.1) (Option.some.inj hf)) (congrArg (fun q => (wX6 cI cZ A (q.2))) (Option.some.inj hf)) rfl dX6_port_34 hP hD hS
  intro H locs hP hD hS ls hl
  have hl : lv_has ls 5 [(0, .ref (A 0)), (1, .int x1), (2, .int x2), (3, .int x3)] := hl
  unfold fX6_port at hf
  refine lv_aload_n hx hb dX6_port_0 rfl (lv_at hl 0 rfl) ?_
  refine lv_iload_n hx hb dX6_port_1 rfl (lv_at hl 1 rfl) ?_
  refine lv_iload_n hx hb dX6_port_2 rfl (lv_at hl 2 rfl) ?_
  obtain ⟨q3, h3, hf⟩ := bd_t hf
  refine cl_i (va_runS (As := [.int x1, .int x2]) (rest := [.ref (A 0)]) S (mX6_isPort l D cI cZ x1 x2 H.size q3 h3) (va_cwS 2 hts gX6_port_X6_isPort rfl rfl rfl (by decide +kernel) ⟨Nat.le_of_ble_eq_true rfl, Nat.le_of_ble_eq_true rfl⟩) (mP_S (Cut.nil _) hP hD hK hG) rfl rfl hl.1 rfl (lv_room (Nat.le_of_ble_eq_true rfl)) dX6_port_3 ⟨Nat.le_refl _, Nat.le_refl _⟩) (Cut.nil _) hP hD hS hA (fun H locs hP hD hS => ?_)
  refine lv_if_ne (tgt := 13) hx hb dX6_port_6 (by decide) (fun c6 => ?_) (fun c6 => ?_)
  · have hf := if_f c6 hf
    refine lv_iload_n hx hb dX6_port_13 rfl (lv_at hl 3 rfl) ?_
    refine lv_iconst (v := 0) hx hb dX6_port_14 (by decide) ?_
    refine lv_iconst (v := 3) hx hb dX6_port_15 (by decide) ?_
    obtain ⟨q16, h16, hf⟩ := bd_t hf
    refine cl_i (va_runS (As := [.int x3, .int 0, .int 3]) (rest := [.ref (A 0)]) S (mX6_isIn l D cI cZ x3 0 3 H.size q16 h16) (va_cwS 3 hts gX6_port_X6_isIn rfl rfl rfl (by decide +kernel) ⟨Nat.le_of_ble_eq_true rfl, Nat.le_of_ble_eq_true rfl⟩) (mP_S (Cut.nil _) hP hD hK hG) rfl rfl hl.1 rfl (lv_room (Nat.le_of_ble_eq_true rfl)) dX6_port_16 ⟨Nat.le_refl _, Nat.le_refl _⟩) (Cut.nil _) hP hD hS hA (fun H locs hP hD hS => ?_)
    refine lv_if_eq (tgt := 26) hx hb dX6_port_19 (by decide) (fun c19 => ?_) (fun c19 => ?_)
    · have hf := if_t c19 hf
      refine lv_iconst (v := 2) hx hb dX6_port_26 (by decide) ?_
      exact B27 _ _ _ _ _ hf H locs hP hD hS ls (lv_sub hl [0, 1, 2, 3] rfl)
    · have hf := if_f c19 hf
      refine lv_iconst (v := 0) hx hb dX6_port_22 (by decide) ?_
      refine lv_goto (tgt := 27) hx hb dX6_port_23 (by decide) ?_
      exact B27 _ _ _ _ _ hf H locs hP hD hS ls (lv_sub hl [0, 1, 2, 3] rfl)
  · have hf := if_t c6 hf
    refine lv_iconst (v := 1) hx hb dX6_port_9 (by decide) ?_
    refine lv_goto (tgt := 27) hx hb dX6_port_10 (by decide) ?_
    exact B27 _ _ _ _ _ hf H locs hP hD hS ls (lv_sub hl [0, 1, 2, 3] rfl)
set_option maxHeartbeats 4000000 in
set_option maxRecDepth 100000 in
theorem mX6_table (l : Launch) (D : va_G) (cI cZ : ClassId) (A : Nat → Nat)  (mm : St) (x1 : Int32) (x2 : Int32) (x3 : Int32) (sz : Nat) (res : Int32 × St) (hf : fX6_table mm x1 x2 x3 = some res) : Met l yX6_table wsX6_table ({ frames := 2, cells := 0, slots := 0, locals := 42 }) (mP D (tysX cI cZ) [.ref (A 0), .int x1, .int x2, .int x3] (wX6 cI cZ A mm) sz) (mQi D res.1 (wX6 cI cZ A mm) (wX6 cI cZ A (res.2)) sz) 0 0 (va_A (wX6 cI cZ A mm) sz) := by
  refine mkM_i (cc := cX6_table) (maxL := 5) (own := RX6) (by decide +kernel) rfl rfl (Nat.le_of_ble_eq_true rfl) ?_
  intro p e s m args below meth c A0 Q S hK hG hA hR
  obtain ⟨hx, hb, hml, hown, hts⟩ := id S
  have k90 := hts (.fieldLink RX6 90 "SwitchFloorModel" "entryPort" "[I") (by decide +kernel)
  have iX6 : ∀ w ∈ wsX60, w ∈ wsX6_table := by decide +kernel
  have B27 : ∀ (mm : St) (x1 : Int32) (x2 : Int32) (x3 : Int32) (y0 : Int32), fX6_table_J27 mm x1 x2 x3 y0 = some res → Bk p l e ({ frames := 2, cells := 0, slots := 0, locals := 42 }) s m args below meth c Q A0 D 5 0 0 (wX6 cI cZ A mm) [(0, .ref (A 0)), (1, .int x1), (2, .int x2), (3, .int x3)] 27 [.int y0, .ref (A 0)] := by
    intro mm x1 x2 x3 y0 hf
    unfold fX6_table_J27 at hf
    intro H locs hP hD hS ls hl
    obtain ⟨q27, h27, hf⟩ := bd_t hf
    refine cl_i (va_runV (As := [.int y0]) (rest := []) S (mX6_fails l D cI cZ A mm y0 H.size q27 h27) (cwV 1 hts gX6_table_X6_fails rfl rfl rfl (by decide +kernel) ⟨Nat.le_of_ble_eq_true rfl, Nat.le_of_ble_eq_true rfl⟩) (mP_V (ci := 6) (Cut.self _ []) hP hD hK hG rfl (gX6_0 _ _ _ _)) rfl rfl hl.1 rfl (lv_room (Nat.le_of_ble_eq_true rfl)) dX6_table_27 ⟨Nat.le_refl _, Nat.le_refl _⟩) (Cut.self _ _) hP hD hS hA (fun H locs hP hD hS => ?_)
    refine lv_if_eq (tgt := 35) hx hb dX6_table_30 (by decide) (fun c30 => ?_) (fun c30 => ?_)
    · have hf := if_t c30 hf
      refine lv_aload_n hx hb dX6_table_35 rfl (lv_at hl 0 rfl) ?_
      refine lv_iload_n hx hb dX6_table_36 rfl (lv_at hl 1 rfl) ?_
      refine lv_iload_n hx hb dX6_table_37 rfl (lv_at hl 2 rfl) ?_
      refine lv_iload_n hx hb dX6_table_38 rfl (lv_at hl 3 rfl) ?_
      obtain ⟨q39, h39, hf⟩ := bd_t hf
      refine cl_i (va_runV (As := [.int x1, .int x2, .int x3]) (rest := []) S (mX6_find l D cI cZ A (q27.2) x1 x2 x3 H.size q39 h39) (cwV 3 hts gX6_table_X6_find rfl rfl rfl (by decide +kernel) ⟨Nat.le_of_ble_eq_true rfl, Nat.le_of_ble_eq_true rfl⟩) (mP_V (ci := 6) (Cut.self _ []) hP hD hK hG rfl (gX6_0 _ _ _ _)) rfl rfl hl.1 rfl (lv_room (Nat.le_of_ble_eq_true rfl)) dX6_table_39 ⟨Nat.le_refl _, Nat.le_refl _⟩) (Cut.self _ _) hP hD hS hA (fun H locs hP hD hS => ?_)
      refine lv_istore (lv' := [(4, .int q39), (0, .ref (A 0)), (1, .int x1), (2, .int x2), (3, .int x3)]) hx hb dX6_table_42 hl (by decide) rfl (fun ls hl => ?_)
      refine lv_iload hx hb dX6_table_44 (lv_at hl 0 rfl) ?_
      refine lv_iconst (v := (-1)) hx hb dX6_table_46 (by decide) ?_
      refine lv_icmp_ne (tgt := 54) hx hb dX6_table_47 (by decide) (fun c47 => ?_) (fun c47 => ?_)
      · have hf := if_f c47 hf
        refine lv_aload_n hx hb dX6_table_54 rfl (lv_at hl 1 rfl) ?_
        refine ld_f S iX6 hK hP 0 27 (.ref (A 26)) (gX6_0 _ _ _ _) rfl (by decide) k90 rfl rfl dX6_table_55 ?_
        refine lv_iload hx hb dX6_table_58 (lv_at hl 0 rfl) ?_
        obtain ⟨c60, hf⟩ := ck_t hf
        refine va_iald (f := (q27.2) 27) hx hb hK hP 26 0 (gX6_26 _ _ _ _) rfl (inb_in c60) dX6_table_60 ?_
        exact hR _ ls H locs _ _ (congrArg (fun q => q.1) (Option.some.inj hf)) (congrArg (fun q => (wX6 cI cZ A (q.2))) (Option.some.inj hf)) rfl dX6_table_61 hP hD hS
      · have hf := if_t c47 hf
        refine lv_iconst (v := (-1)) hx hb dX6_table_50 (by decide) ?_
        refine lv_goto (tgt := 61) hx hb dX6_table_51 (by decide) ?_
        exact hR _ ls H locs _ _ (congrArg (fun q => q.1) (Option.some.inj hf)) (congrArg (fun q => (wX6 cI cZ A (q.2))) (Option.some.inj hf)) rfl dX6_table_61 hP hD hS
    · have hf := if_f c30 hf
      refine lv_iconst (v := 0) hx hb dX6_table_33 (by decide) ?_
      exact hR _ ls H locs _ _ (congrArg (fun q => q.1) (Option.some.inj hf)) (congrArg (fun q => (wX6 cI cZ A (q.2))) (Option.some.inj hf)) rfl dX6_table_34 hP hD hS
  have B26 : ∀ (mm : St) (x1 : Int32) (x2 : Int32) (x3 : Int32), fX6_table_J26 mm x1 x2 x3 = some res → Bk p l e ({ frames := 2, cells := 0, slots := 0, locals := 42 }) s m args below meth c Q A0 D 5 0 0 (wX6 cI cZ A mm) [(0, .ref (A 0)), (1, .int x1), (2, .int x2), (3, .int x3)] 26 [.ref (A 0)] := by
    intro mm x1 x2 x3 hf
    unfold fX6_table_J26 at hf
    intro H locs hP hD hS ls hl
    refine lv_iconst (v := 1) hx hb dX6_table_26 (by decide) ?_
    exact B27 _ _ _ _ _ hf H locs hP hD hS ls (lv_sub hl [0, 1, 2, 3] rfl)
  intro H locs hP hD hS ls hl
  have hl : lv_has ls 5 [(0, .ref (A 0)), (1, .int x1), (2, .int x2), (3, .int x3)] := hl
  unfold fX6_table at hf
  refine lv_aload_n hx hb dX6_table_0 rfl (lv_at hl 0 rfl) ?_
  refine lv_iload_n hx hb dX6_table_1 rfl (lv_at hl 1 rfl) ?_
  obtain ⟨q2, h2, hf⟩ := bd_t hf
  refine cl_i (va_runS (As := [.int x1]) (rest := [.ref (A 0)]) S (mX6_isSwitch l D cI cZ x1 H.size q2 h2) (va_cwS 1 hts gX6_table_X6_isSwitch rfl rfl rfl (by decide +kernel) ⟨Nat.le_of_ble_eq_true rfl, Nat.le_of_ble_eq_true rfl⟩) (mP_S (Cut.nil _) hP hD hK hG) rfl rfl hl.1 rfl (lv_room (Nat.le_of_ble_eq_true rfl)) dX6_table_2 ⟨Nat.le_refl _, Nat.le_refl _⟩) (Cut.nil _) hP hD hS hA (fun H locs hP hD hS => ?_)
  refine lv_if_eq (tgt := 26) hx hb dX6_table_5 (by decide) (fun c5 => ?_) (fun c5 => ?_)
  · have hf := if_t c5 hf
    exact B26 _ _ _ _ hf H locs hP hD hS ls (lv_sub hl [0, 1, 2, 3] rfl)
  · have hf := if_f c5 hf
    refine lv_iload_n hx hb dX6_table_8 rfl (lv_at hl 2 rfl) ?_
    obtain ⟨q9, h9, hf⟩ := bd_t hf
    refine cl_i (va_runS (As := [.int x2]) (rest := [.ref (A 0)]) S (mX6_isLane l D cI cZ x2 H.size q9 h9) (va_cwS 1 hts gX6_table_X6_isLane rfl rfl rfl (by decide +kernel) ⟨Nat.le_of_ble_eq_true rfl, Nat.le_of_ble_eq_true rfl⟩) (mP_S (Cut.nil _) hP hD hK hG) rfl rfl hl.1 rfl (lv_room (Nat.le_of_ble_eq_true rfl)) dX6_table_9 ⟨Nat.le_refl _, Nat.le_refl _⟩) (Cut.nil _) hP hD hS hA (fun H locs hP hD hS => ?_)
    refine lv_if_eq (tgt := 26) hx hb dX6_table_12 (by decide) (fun c12 => ?_) (fun c12 => ?_)
    · have hf := if_t c12 hf
      exact B26 _ _ _ _ hf H locs hP hD hS ls (lv_sub hl [0, 1, 2, 3] rfl)
    · have hf := if_f c12 hf
      refine lv_iload_n hx hb dX6_table_15 rfl (lv_at hl 3 rfl) ?_
      obtain ⟨q16, h16, hf⟩ := bd_t hf
      refine cl_i (va_runS (As := [.int x3]) (rest := [.ref (A 0)]) S (mX6_isHouse l D cI cZ x3 H.size q16 h16) (va_cwS 1 hts gX6_table_X6_isHouse rfl rfl rfl (by decide +kernel) ⟨Nat.le_of_ble_eq_true rfl, Nat.le_of_ble_eq_true rfl⟩) (mP_S (Cut.nil _) hP hD hK hG) rfl rfl hl.1 rfl (lv_room (Nat.le_of_ble_eq_true rfl)) dX6_table_16 ⟨Nat.le_refl _, Nat.le_refl _⟩) (Cut.nil _) hP hD hS hA (fun H locs hP hD hS => ?_)
      refine lv_if_eq (tgt := 26) hx hb dX6_table_19 (by decide) (fun c19 => ?_) (fun c19 => ?_)
      · have hf := if_t c19 hf
        exact B26 _ _ _ _ hf H locs hP hD hS ls (lv_sub hl [0, 1, 2, 3] rfl)
      · have hf := if_f c19 hf
        refine lv_iconst (v := 0) hx hb dX6_table_22 (by decide) ?_
        refine lv_goto (tgt := 27) hx hb dX6_table_23 (by decide) ?_
        exact B27 _ _ _ _ _ hf H locs hP hD hS ls (lv_sub hl [0, 1, 2, 3] rfl)
set_option maxHeartbeats 4000000 in
set_option maxRecDepth 100000 in
theorem mX6_got (l : Launch) (D : va_G) (cI cZ : ClassId) (A : Nat → Nat)  (mm : St) (x1 : Int32) (x2 : Int32) (sz : Nat) (res : Int32 × St) (hf : fX6_got mm x1 x2 = some res) : Met l yX6_got wsX6_got ({ frames := 2, cells := 0, slots := 0, locals := 42 }) (mP D (tysX cI cZ) [.ref (A 0), .int x1, .int x2] (wX6 cI cZ A mm) sz) (mQi D res.1 (wX6 cI cZ A mm) (wX6 cI cZ A (res.2)) sz) 0 0 (va_A (wX6 cI cZ A mm) sz) := by
  refine mkM_i (cc := cX6_got) (maxL := 3) (own := RX6) (by decide +kernel) rfl rfl (Nat.le_of_ble_eq_true rfl) ?_
  intro p e s m args below meth c A0 Q S hK hG hA hR
  obtain ⟨hx, hb, hml, hown, hts⟩ := id S
  have k96 := hts (.fieldLink RX6 96 "SwitchFloorModel" "got" "[I") (by decide +kernel)
  have iX6 : ∀ w ∈ wsX60, w ∈ wsX6_got := by decide +kernel
  have k99 := hts (.fieldLink RX6 99 "SwitchFloorModel" "overheard" "[I") (by decide +kernel)
  have B13 : ∀ (mm : St) (x1 : Int32) (x2 : Int32) (y0 : Int32), fX6_got_J13 mm x1 x2 y0 = some res → Bk p l e ({ frames := 2, cells := 0, slots := 0, locals := 42 }) s m args below meth c Q A0 D 3 0 0 (wX6 cI cZ A mm) [(0, .ref (A 0)), (1, .int x1), (2, .int x2)] 13 [.int y0, .ref (A 0)] := by
    intro mm x1 x2 y0 hf
    unfold fX6_got_J13 at hf
    intro H locs hP hD hS ls hl
    obtain ⟨q13, h13, hf⟩ := bd_t hf
    refine cl_i (va_runV (As := [.int y0]) (rest := []) S (mX6_fails l D cI cZ A mm y0 H.size q13 h13) (cwV 1 hts gX6_got_X6_fails rfl rfl rfl (by decide +kernel) ⟨Nat.le_of_ble_eq_true rfl, Nat.le_of_ble_eq_true rfl⟩) (mP_V (ci := 6) (Cut.self _ []) hP hD hK hG rfl (gX6_0 _ _ _ _)) rfl rfl hl.1 rfl (lv_room (Nat.le_of_ble_eq_true rfl)) dX6_got_13 ⟨Nat.le_refl _, Nat.le_refl _⟩) (Cut.self _ _) hP hD hS hA (fun H locs hP hD hS => ?_)
    refine lv_if_eq (tgt := 23) hx hb dX6_got_16 (by decide) (fun c16 => ?_) (fun c16 => ?_)
    · have hf := if_t c16 hf
      refine lv_iload_n hx hb dX6_got_23 rfl (lv_at hl 2 rfl) ?_
      refine lv_if_eq (tgt := 36) hx hb dX6_got_24 (by decide) (fun c24 => ?_) (fun c24 => ?_)
      · have hf := if_t c24 hf
        refine lv_aload_n hx hb dX6_got_36 rfl (lv_at hl 0 rfl) ?_
        refine ld_f S iX6 hK hP 0 29 (.ref (A 28)) (gX6_0 _ _ _ _) rfl (by decide) k96 rfl rfl dX6_got_37 ?_
        refine lv_iload_n hx hb dX6_got_40 rfl (lv_at hl 1 rfl) ?_
        obtain ⟨c41, hf⟩ := ck_t hf
        refine va_iald (f := (q13.2) 29) hx hb hK hP 28 0 (gX6_28 _ _ _ _) rfl (inb_in c41) dX6_got_41 ?_
        exact hR _ ls H locs _ _ (congrArg (fun q => q.1) (Option.some.inj hf)) (congrArg (fun q => (wX6 cI cZ A (q.2))) (Option.some.inj hf)) rfl dX6_got_42 hP hD hS
      · have hf := if_f c24 hf
        refine lv_aload_n hx hb dX6_got_27 rfl (lv_at hl 0 rfl) ?_
        refine ld_f S iX6 hK hP 0 30 (.ref (A 29)) (gX6_0 _ _ _ _) rfl (by decide) k99 rfl rfl dX6_got_28 ?_
        refine lv_iload_n hx hb dX6_got_31 rfl (lv_at hl 1 rfl) ?_
        obtain ⟨c32, hf⟩ := ck_t hf
        refine va_iald (f := (q13.2) 30) hx hb hK hP 29 0 (gX6_29 _ _ _ _) rfl (inb_in c32) dX6_got_32 ?_
        refine lv_goto (tgt := 42) hx hb dX6_got_33 (by decide) ?_
        exact hR _ ls H locs _ _ (congrArg (fun q => q.1) (Option.some.inj hf)) (congrArg (fun q => (wX6 cI cZ A (q.2))) (Option.some.inj hf)) rfl dX6_got_42 hP hD hS
    · have hf := if_f c16 hf
      refine lv_iconst (v := 0) hx hb dX6_got_19 (by decide) ?_
      refine lv_goto (tgt := 42) hx hb dX6_got_20 (by decide) ?_
      exact hR _ ls H locs _ _ (congrArg (fun q => q.1) (Option.some.inj hf)) (congrArg (fun q => (wX6 cI cZ A (q.2))) (Option.some.inj hf)) rfl dX6_got_42 hP hD hS
  intro H locs hP hD hS ls hl
  have hl : lv_has ls 3 [(0, .ref (A 0)), (1, .int x1), (2, .int x2)] := hl
  unfold fX6_got at hf
  refine lv_aload_n hx hb dX6_got_0 rfl (lv_at hl 0 rfl) ?_
  refine lv_iload_n hx hb dX6_got_1 rfl (lv_at hl 1 rfl) ?_
  obtain ⟨q2, h2, hf⟩ := bd_t hf
  refine cl_i (va_runS (As := [.int x1]) (rest := [.ref (A 0)]) S (mX6_isHouse l D cI cZ x1 H.size q2 h2) (va_cwS 1 hts gX6_got_X6_isHouse rfl rfl rfl (by decide +kernel) ⟨Nat.le_of_ble_eq_true rfl, Nat.le_of_ble_eq_true rfl⟩) (mP_S (Cut.nil _) hP hD hK hG) rfl rfl hl.1 rfl (lv_room (Nat.le_of_ble_eq_true rfl)) dX6_got_2 ⟨Nat.le_refl _, Nat.le_refl _⟩) (Cut.nil _) hP hD hS hA (fun H locs hP hD hS => ?_)
  refine lv_if_eq (tgt := 12) hx hb dX6_got_5 (by decide) (fun c5 => ?_) (fun c5 => ?_)
  · have hf := if_t c5 hf
    refine lv_iconst (v := 1) hx hb dX6_got_12 (by decide) ?_
    exact B13 _ _ _ _ hf H locs hP hD hS ls (lv_sub hl [0, 1, 2] rfl)
  · have hf := if_f c5 hf
    refine lv_iconst (v := 0) hx hb dX6_got_8 (by decide) ?_
    refine lv_goto (tgt := 13) hx hb dX6_got_9 (by decide) ?_
    exact B13 _ _ _ _ hf H locs hP hD hS ls (lv_sub hl [0, 1, 2] rfl)
set_option maxHeartbeats 4000000 in
set_option maxRecDepth 100000 in
theorem mX6_keeps_k27 (l : Launch) (D : va_G) (cI cZ : ClassId) (A : Nat → Nat)  (mm : St) (x1 : Int32) (sz : Nat) (res : St) (hf : fX6_keeps_k27 mm x1 = some res) : Met l yX6_keeps wsX6_keeps ({ frames := 0, cells := 0, slots := 0, locals := 0 }) (mP D (tysX cI cZ) [.ref (A 0), .int x1, .ref (A 27)] (wX6 cI cZ A mm) sz) (mQv D (wX6 cI cZ A mm) (wX6 cI cZ A res) sz) 0 0 (va_A (wX6 cI cZ A mm) sz) := by
  refine mkM_v (cc := cX6_keeps) (maxL := 4) (own := RX6) (by decide +kernel) rfl rfl (Nat.le_of_ble_eq_true rfl) ?_
  intro p e s m args below meth c A0 Q S hK hG hA hR
  obtain ⟨hx, hb, hml, hown, hts⟩ := id S
  have k114 := hts (.fieldLink RX6 114 "SwitchFloorModel" "kept" "[I") (by decide +kernel)
  have iX6 : ∀ w ∈ wsX60, w ∈ wsX6_keeps := by decide +kernel
  have B2 : ∀ (x1 : Int32) (mm : St) (x3 : Int32), fX6_keeps_k27_L2 x1 mm x3 = some res → Bk p l e ({ frames := 0, cells := 0, slots := 0, locals := 0 }) s m args below meth c Q A0 D 4 0 0 (wX6 cI cZ A mm) [(0, .ref (A 0)), (1, .int x1), (2, .ref (A 27)), (3, .int x3)] 2 [] := by
    intro x1 mm x3 hf
    refine loop_ind (step := (fun k a => fX6_keeps_k27_S2 k x1 (a.1) (a.2))) (fun a => Bk p l e ({ frames := 0, cells := 0, slots := 0, locals := 0 }) s m args below meth c Q A0 D 4 0 0 (wX6 cI cZ A (a.1)) [(0, .ref (A 0)), (1, .int x1), (2, .ref (A 27)), (3, .int (a.2))] 2 []) ?_ _ _ hf
    clear hf
    intro k2 hk2 a hf
    obtain ⟨mm_, x3_⟩ := a
    clear mm x3
    obtain ⟨mm, e_⟩ : ∃ z, z = mm_ := ⟨_, rfl⟩
    subst e_
    obtain ⟨x3, e_⟩ : ∃ z, z = x3_ := ⟨_, rfl⟩
    subst e_
    have hf : fX6_keeps_k27_S2 k2 x1 mm x3 = some res := hf
    show Bk p l e ({ frames := 0, cells := 0, slots := 0, locals := 0 }) s m args below meth c Q A0 D 4 0 0 (wX6 cI cZ A mm) [(0, .ref (A 0)), (1, .int x1), (2, .ref (A 27)), (3, .int x3)] 2 []
    unfold fX6_keeps_k27_S2 at hf
    intro H locs hP hD hS ls hl
    refine lv_iload_n hx hb dX6_keeps_2 rfl (lv_at hl 3 rfl) ?_
    refine lv_aload_n hx hb dX6_keeps_3 rfl (lv_at hl 2 rfl) ?_
    refine va_alen (v := 48) hx hb hK hP 27 0 (gX6_27 _ _ _ _) rfl rfl dX6_keeps_4 ?_
    refine lv_icmp_ge (tgt := 25) hx hb dX6_keeps_5 (by decide) (fun c5 => ?_) (fun c5 => ?_)
    · have hf := if_t c5 hf
      exact hR _ ls H locs _ (congrArg (fun q => (wX6 cI cZ A q)) (Option.some.inj hf)) dX6_keeps_25 hP hD hS
    · have hf := if_f c5 hf
      refine lv_aload_n hx hb dX6_keeps_8 rfl (lv_at hl 0 rfl) ?_
      refine ld_f S iX6 hK hP 0 36 (.ref (A 34)) (gX6_0 _ _ _ _) rfl (by decide) k114 rfl rfl dX6_keeps_9 ?_
      refine lv_iload_n hx hb dX6_keeps_12 rfl (lv_at hl 1 rfl) ?_
      refine lv_iload_n hx hb dX6_keeps_13 rfl (lv_at hl 3 rfl) ?_
      refine lv_iadd hx hb dX6_keeps_14 ?_
      refine lv_aload_n hx hb dX6_keeps_15 rfl (lv_at hl 2 rfl) ?_
      refine lv_iload_n hx hb dX6_keeps_16 rfl (lv_at hl 3 rfl) ?_
      obtain ⟨c17, hf⟩ := ck_t hf
      refine va_iald (f := mm 28) hx hb hK hP 27 0 (gX6_27 _ _ _ _) rfl (inb_in c17) dX6_keeps_17 ?_
      obtain ⟨c18, hf⟩ := ck_t hf
      refine st_i hx hb hK hP hD hS 34 0 (sX6_34 _ _ _ _ _ _) (gX6_34 _ _ _ _) rfl c18 dX6_keeps_18 (fun H locs hP hD hS => ?_)
      refine lv_iinc (v := x3 + 1) (lv' := [(3, .int (x3 + 1)), (0, .ref (A 0)), (1, .int x1), (2, .ref (A 27))]) hx hb dX6_keeps_19 hl (k := 3) rfl rfl (by decide) rfl (fun ls hl => ?_)
      refine lv_goto (tgt := 2) hx hb dX6_keeps_22 (by decide) ?_
      exact hk2 _ hf H locs hP hD hS ls (lv_sub hl [1, 2, 3, 0] rfl)
  intro H locs hP hD hS ls hl
  have hl : lv_has ls 4 [(0, .ref (A 0)), (1, .int x1), (2, .ref (A 27))] := hl
  unfold fX6_keeps_k27 at hf
  refine lv_iconst (v := 0) hx hb dX6_keeps_0 (by decide) ?_
  refine lv_istore_n (lv' := [(3, .int 0), (0, .ref (A 0)), (1, .int x1), (2, .ref (A 27))]) hx hb dX6_keeps_1 rfl hl (by decide) rfl (fun ls hl => ?_)
  exact B2 _ _ _ hf H locs hP hD hS ls (lv_sub hl [1, 2, 3, 0] rfl)
set_option maxHeartbeats 4000000 in
set_option maxRecDepth 100000 in
theorem mX6_back_k27 (l : Launch) (D : va_G) (cI cZ : ClassId) (A : Nat → Nat)  (mm : St) (x1 : Int32) (sz : Nat) (res : St) (hf : fX6_back_k27 mm x1 = some res) : Met l yX6_back wsX6_back ({ frames := 0, cells := 0, slots := 0, locals := 0 }) (mP D (tysX cI cZ) [.ref (A 0), .int x1, .ref (A 27)] (wX6 cI cZ A mm) sz) (mQv D (wX6 cI cZ A mm) (wX6 cI cZ A res) sz) 0 0 (va_A (wX6 cI cZ A mm) sz) := by
  refine mkM_v (cc := cX6_back) (maxL := 4) (own := RX6) (by decide +kernel) rfl rfl (Nat.le_of_ble_eq_true rfl) ?_
  intro p e s m args below meth c A0 Q S hK hG hA hR
  obtain ⟨hx, hb, hml, hown, hts⟩ := id S
  have k114 := hts (.fieldLink RX6 114 "SwitchFloorModel" "kept" "[I") (by decide +kernel)
  have iX6 : ∀ w ∈ wsX60, w ∈ wsX6_back := by decide +kernel
  have B2 : ∀ (x1 : Int32) (mm : St) (x3 : Int32), fX6_back_k27_L2 x1 mm x3 = some res → Bk p l e ({ frames := 0, cells := 0, slots := 0, locals := 0 }) s m args below meth c Q A0 D 4 0 0 (wX6 cI cZ A mm) [(0, .ref (A 0)), (1, .int x1), (2, .ref (A 27)), (3, .int x3)] 2 [] := by
    intro x1 mm x3 hf
    refine loop_ind (step := (fun k a => fX6_back_k27_S2 k x1 (a.1) (a.2))) (fun a => Bk p l e ({ frames := 0, cells := 0, slots := 0, locals := 0 }) s m args below meth c Q A0 D 4 0 0 (wX6 cI cZ A (a.1)) [(0, .ref (A 0)), (1, .int x1), (2, .ref (A 27)), (3, .int (a.2))] 2 []) ?_ _ _ hf
    clear hf
    intro k2 hk2 a hf
    obtain ⟨mm_, x3_⟩ := a
    clear mm x3
    obtain ⟨mm, e_⟩ : ∃ z, z = mm_ := ⟨_, rfl⟩
    subst e_
    obtain ⟨x3, e_⟩ : ∃ z, z = x3_ := ⟨_, rfl⟩
    subst e_
    have hf : fX6_back_k27_S2 k2 x1 mm x3 = some res := hf
    show Bk p l e ({ frames := 0, cells := 0, slots := 0, locals := 0 }) s m args below meth c Q A0 D 4 0 0 (wX6 cI cZ A mm) [(0, .ref (A 0)), (1, .int x1), (2, .ref (A 27)), (3, .int x3)] 2 []
    unfold fX6_back_k27_S2 at hf
    intro H locs hP hD hS ls hl
    refine lv_iload_n hx hb dX6_back_2 rfl (lv_at hl 3 rfl) ?_
    refine lv_aload_n hx hb dX6_back_3 rfl (lv_at hl 2 rfl) ?_
    refine va_alen (v := 48) hx hb hK hP 27 0 (gX6_27 _ _ _ _) rfl rfl dX6_back_4 ?_
    refine lv_icmp_ge (tgt := 25) hx hb dX6_back_5 (by decide) (fun c5 => ?_) (fun c5 => ?_)
    · have hf := if_t c5 hf
      exact hR _ ls H locs _ (congrArg (fun q => (wX6 cI cZ A q)) (Option.some.inj hf)) dX6_back_25 hP hD hS
    · have hf := if_f c5 hf
      refine lv_aload_n hx hb dX6_back_8 rfl (lv_at hl 2 rfl) ?_
      refine lv_iload_n hx hb dX6_back_9 rfl (lv_at hl 3 rfl) ?_
      refine lv_aload_n hx hb dX6_back_10 rfl (lv_at hl 0 rfl) ?_
      refine ld_f S iX6 hK hP 0 36 (.ref (A 34)) (gX6_0 _ _ _ _) rfl (by decide) k114 rfl rfl dX6_back_11 ?_
      refine lv_iload_n hx hb dX6_back_14 rfl (lv_at hl 1 rfl) ?_
      refine lv_iload_n hx hb dX6_back_15 rfl (lv_at hl 3 rfl) ?_
      refine lv_iadd hx hb dX6_back_16 ?_
      obtain ⟨c17, hf⟩ := ck_t hf
      refine va_iald (f := mm 36) hx hb hK hP 34 0 (gX6_34 _ _ _ _) rfl (inb_in c17) dX6_back_17 ?_
      obtain ⟨c18, hf⟩ := ck_t hf
      refine st_i hx hb hK hP hD hS 27 0 (sX6_27 _ _ _ _ _ _) (gX6_27 _ _ _ _) rfl c18 dX6_back_18 (fun H locs hP hD hS => ?_)
      refine lv_iinc (v := x3 + 1) (lv' := [(3, .int (x3 + 1)), (0, .ref (A 0)), (1, .int x1), (2, .ref (A 27))]) hx hb dX6_back_19 hl (k := 3) rfl rfl (by decide) rfl (fun ls hl => ?_)
      refine lv_goto (tgt := 2) hx hb dX6_back_22 (by decide) ?_
      exact hk2 _ hf H locs hP hD hS ls (lv_sub hl [1, 2, 3, 0] rfl)
  intro H locs hP hD hS ls hl
  have hl : lv_has ls 4 [(0, .ref (A 0)), (1, .int x1), (2, .ref (A 27))] := hl
  unfold fX6_back_k27 at hf
  refine lv_iconst (v := 0) hx hb dX6_back_0 (by decide) ?_
  refine lv_istore_n (lv' := [(3, .int 0), (0, .ref (A 0)), (1, .int x1), (2, .ref (A 27))]) hx hb dX6_back_1 rfl hl (by decide) rfl (fun ls hl => ?_)
  exact B2 _ _ _ hf H locs hP hD hS ls (lv_sub hl [1, 2, 3, 0] rfl)
set_option maxHeartbeats 4000000 in
set_option maxRecDepth 100000 in
theorem mX6_keeps_k26 (l : Launch) (D : va_G) (cI cZ : ClassId) (A : Nat → Nat)  (mm : St) (x1 : Int32) (sz : Nat) (res : St) (hf : fX6_keeps_k26 mm x1 = some res) : Met l yX6_keeps wsX6_keeps ({ frames := 0, cells := 0, slots := 0, locals := 0 }) (mP D (tysX cI cZ) [.ref (A 0), .int x1, .ref (A 26)] (wX6 cI cZ A mm) sz) (mQv D (wX6 cI cZ A mm) (wX6 cI cZ A res) sz) 0 0 (va_A (wX6 cI cZ A mm) sz) := by
  refine mkM_v (cc := cX6_keeps) (maxL := 4) (own := RX6) (by decide +kernel) rfl rfl (Nat.le_of_ble_eq_true rfl) ?_
  intro p e s m args below meth c A0 Q S hK hG hA hR
  obtain ⟨hx, hb, hml, hown, hts⟩ := id S
  have k114 := hts (.fieldLink RX6 114 "SwitchFloorModel" "kept" "[I") (by decide +kernel)
  have iX6 : ∀ w ∈ wsX60, w ∈ wsX6_keeps := by decide +kernel
  have B2 : ∀ (x1 : Int32) (mm : St) (x3 : Int32), fX6_keeps_k26_L2 x1 mm x3 = some res → Bk p l e ({ frames := 0, cells := 0, slots := 0, locals := 0 }) s m args below meth c Q A0 D 4 0 0 (wX6 cI cZ A mm) [(0, .ref (A 0)), (1, .int x1), (2, .ref (A 26)), (3, .int x3)] 2 [] := by
    intro x1 mm x3 hf
    refine loop_ind (step := (fun k a => fX6_keeps_k26_S2 k x1 (a.1) (a.2))) (fun a => Bk p l e ({ frames := 0, cells := 0, slots := 0, locals := 0 }) s m args below meth c Q A0 D 4 0 0 (wX6 cI cZ A (a.1)) [(0, .ref (A 0)), (1, .int x1), (2, .ref (A 26)), (3, .int (a.2))] 2 []) ?_ _ _ hf
    clear hf
    intro k2 hk2 a hf
    obtain ⟨mm_, x3_⟩ := a
    clear mm x3
    obtain ⟨mm, e_⟩ : ∃ z, z = mm_ := ⟨_, rfl⟩
    subst e_
    obtain ⟨x3, e_⟩ : ∃ z, z = x3_ := ⟨_, rfl⟩
    subst e_
    have hf : fX6_keeps_k26_S2 k2 x1 mm x3 = some res := hf
    show Bk p l e ({ frames := 0, cells := 0, slots := 0, locals := 0 }) s m args below meth c Q A0 D 4 0 0 (wX6 cI cZ A mm) [(0, .ref (A 0)), (1, .int x1), (2, .ref (A 26)), (3, .int x3)] 2 []
    unfold fX6_keeps_k26_S2 at hf
    intro H locs hP hD hS ls hl
    refine lv_iload_n hx hb dX6_keeps_2 rfl (lv_at hl 3 rfl) ?_
    refine lv_aload_n hx hb dX6_keeps_3 rfl (lv_at hl 2 rfl) ?_
    refine va_alen (v := 48) hx hb hK hP 26 0 (gX6_26 _ _ _ _) rfl rfl dX6_keeps_4 ?_
    refine lv_icmp_ge (tgt := 25) hx hb dX6_keeps_5 (by decide) (fun c5 => ?_) (fun c5 => ?_)
    · have hf := if_t c5 hf
      exact hR _ ls H locs _ (congrArg (fun q => (wX6 cI cZ A q)) (Option.some.inj hf)) dX6_keeps_25 hP hD hS
    · have hf := if_f c5 hf
      refine lv_aload_n hx hb dX6_keeps_8 rfl (lv_at hl 0 rfl) ?_
      refine ld_f S iX6 hK hP 0 36 (.ref (A 34)) (gX6_0 _ _ _ _) rfl (by decide) k114 rfl rfl dX6_keeps_9 ?_
      refine lv_iload_n hx hb dX6_keeps_12 rfl (lv_at hl 1 rfl) ?_
      refine lv_iload_n hx hb dX6_keeps_13 rfl (lv_at hl 3 rfl) ?_
      refine lv_iadd hx hb dX6_keeps_14 ?_
      refine lv_aload_n hx hb dX6_keeps_15 rfl (lv_at hl 2 rfl) ?_
      refine lv_iload_n hx hb dX6_keeps_16 rfl (lv_at hl 3 rfl) ?_
      obtain ⟨c17, hf⟩ := ck_t hf
      refine va_iald (f := mm 27) hx hb hK hP 26 0 (gX6_26 _ _ _ _) rfl (inb_in c17) dX6_keeps_17 ?_
      obtain ⟨c18, hf⟩ := ck_t hf
      refine st_i hx hb hK hP hD hS 34 0 (sX6_34 _ _ _ _ _ _) (gX6_34 _ _ _ _) rfl c18 dX6_keeps_18 (fun H locs hP hD hS => ?_)
      refine lv_iinc (v := x3 + 1) (lv' := [(3, .int (x3 + 1)), (0, .ref (A 0)), (1, .int x1), (2, .ref (A 26))]) hx hb dX6_keeps_19 hl (k := 3) rfl rfl (by decide) rfl (fun ls hl => ?_)
      refine lv_goto (tgt := 2) hx hb dX6_keeps_22 (by decide) ?_
      exact hk2 _ hf H locs hP hD hS ls (lv_sub hl [1, 2, 3, 0] rfl)
  intro H locs hP hD hS ls hl
  have hl : lv_has ls 4 [(0, .ref (A 0)), (1, .int x1), (2, .ref (A 26))] := hl
  unfold fX6_keeps_k26 at hf
  refine lv_iconst (v := 0) hx hb dX6_keeps_0 (by decide) ?_
  refine lv_istore_n (lv' := [(3, .int 0), (0, .ref (A 0)), (1, .int x1), (2, .ref (A 26))]) hx hb dX6_keeps_1 rfl hl (by decide) rfl (fun ls hl => ?_)
  exact B2 _ _ _ hf H locs hP hD hS ls (lv_sub hl [1, 2, 3, 0] rfl)
set_option maxHeartbeats 4000000 in
set_option maxRecDepth 100000 in
theorem mX6_back_k26 (l : Launch) (D : va_G) (cI cZ : ClassId) (A : Nat → Nat)  (mm : St) (x1 : Int32) (sz : Nat) (res : St) (hf : fX6_back_k26 mm x1 = some res) : Met l yX6_back wsX6_back ({ frames := 0, cells := 0, slots := 0, locals := 0 }) (mP D (tysX cI cZ) [.ref (A 0), .int x1, .ref (A 26)] (wX6 cI cZ A mm) sz) (mQv D (wX6 cI cZ A mm) (wX6 cI cZ A res) sz) 0 0 (va_A (wX6 cI cZ A mm) sz) := by
  refine mkM_v (cc := cX6_back) (maxL := 4) (own := RX6) (by decide +kernel) rfl rfl (Nat.le_of_ble_eq_true rfl) ?_
  intro p e s m args below meth c A0 Q S hK hG hA hR
  obtain ⟨hx, hb, hml, hown, hts⟩ := id S
  have k114 := hts (.fieldLink RX6 114 "SwitchFloorModel" "kept" "[I") (by decide +kernel)
  have iX6 : ∀ w ∈ wsX60, w ∈ wsX6_back := by decide +kernel
  have B2 : ∀ (x1 : Int32) (mm : St) (x3 : Int32), fX6_back_k26_L2 x1 mm x3 = some res → Bk p l e ({ frames := 0, cells := 0, slots := 0, locals := 0 }) s m args below meth c Q A0 D 4 0 0 (wX6 cI cZ A mm) [(0, .ref (A 0)), (1, .int x1), (2, .ref (A 26)), (3, .int x3)] 2 [] := by
    intro x1 mm x3 hf
    refine loop_ind (step := (fun k a => fX6_back_k26_S2 k x1 (a.1) (a.2))) (fun a => Bk p l e ({ frames := 0, cells := 0, slots := 0, locals := 0 }) s m args below meth c Q A0 D 4 0 0 (wX6 cI cZ A (a.1)) [(0, .ref (A 0)), (1, .int x1), (2, .ref (A 26)), (3, .int (a.2))] 2 []) ?_ _ _ hf
    clear hf
    intro k2 hk2 a hf
    obtain ⟨mm_, x3_⟩ := a
    clear mm x3
    obtain ⟨mm, e_⟩ : ∃ z, z = mm_ := ⟨_, rfl⟩
    subst e_
    obtain ⟨x3, e_⟩ : ∃ z, z = x3_ := ⟨_, rfl⟩
    subst e_
    have hf : fX6_back_k26_S2 k2 x1 mm x3 = some res := hf
    show Bk p l e ({ frames := 0, cells := 0, slots := 0, locals := 0 }) s m args below meth c Q A0 D 4 0 0 (wX6 cI cZ A mm) [(0, .ref (A 0)), (1, .int x1), (2, .ref (A 26)), (3, .int x3)] 2 []
    unfold fX6_back_k26_S2 at hf
    intro H locs hP hD hS ls hl
    refine lv_iload_n hx hb dX6_back_2 rfl (lv_at hl 3 rfl) ?_
    refine lv_aload_n hx hb dX6_back_3 rfl (lv_at hl 2 rfl) ?_
    refine va_alen (v := 48) hx hb hK hP 26 0 (gX6_26 _ _ _ _) rfl rfl dX6_back_4 ?_
    refine lv_icmp_ge (tgt := 25) hx hb dX6_back_5 (by decide) (fun c5 => ?_) (fun c5 => ?_)
    · have hf := if_t c5 hf
      exact hR _ ls H locs _ (congrArg (fun q => (wX6 cI cZ A q)) (Option.some.inj hf)) dX6_back_25 hP hD hS
    · have hf := if_f c5 hf
      refine lv_aload_n hx hb dX6_back_8 rfl (lv_at hl 2 rfl) ?_
      refine lv_iload_n hx hb dX6_back_9 rfl (lv_at hl 3 rfl) ?_
      refine lv_aload_n hx hb dX6_back_10 rfl (lv_at hl 0 rfl) ?_
      refine ld_f S iX6 hK hP 0 36 (.ref (A 34)) (gX6_0 _ _ _ _) rfl (by decide) k114 rfl rfl dX6_back_11 ?_
      refine lv_iload_n hx hb dX6_back_14 rfl (lv_at hl 1 rfl) ?_
      refine lv_iload_n hx hb dX6_back_15 rfl (lv_at hl 3 rfl) ?_
      refine lv_iadd hx hb dX6_back_16 ?_
      obtain ⟨c17, hf⟩ := ck_t hf
      refine va_iald (f := mm 36) hx hb hK hP 34 0 (gX6_34 _ _ _ _) rfl (inb_in c17) dX6_back_17 ?_
      obtain ⟨c18, hf⟩ := ck_t hf
      refine st_i hx hb hK hP hD hS 26 0 (sX6_26 _ _ _ _ _ _) (gX6_26 _ _ _ _) rfl c18 dX6_back_18 (fun H locs hP hD hS => ?_)
      refine lv_iinc (v := x3 + 1) (lv' := [(3, .int (x3 + 1)), (0, .ref (A 0)), (1, .int x1), (2, .ref (A 26))]) hx hb dX6_back_19 hl (k := 3) rfl rfl (by decide) rfl (fun ls hl => ?_)
      refine lv_goto (tgt := 2) hx hb dX6_back_22 (by decide) ?_
      exact hk2 _ hf H locs hP hD hS ls (lv_sub hl [1, 2, 3, 0] rfl)
  intro H locs hP hD hS ls hl
  have hl : lv_has ls 4 [(0, .ref (A 0)), (1, .int x1), (2, .ref (A 26))] := hl
  unfold fX6_back_k26 at hf
  refine lv_iconst (v := 0) hx hb dX6_back_0 (by decide) ?_
  refine lv_istore_n (lv' := [(3, .int 0), (0, .ref (A 0)), (1, .int x1), (2, .ref (A 26))]) hx hb dX6_back_1 rfl hl (by decide) rfl (fun ls hl => ?_)
  exact B2 _ _ _ hf H locs hP hD hS ls (lv_sub hl [1, 2, 3, 0] rfl)
set_option maxHeartbeats 4000000 in
set_option maxRecDepth 100000 in
theorem mX6_keeps_k25 (l : Launch) (D : va_G) (cI cZ : ClassId) (A : Nat → Nat)  (mm : St) (x1 : Int32) (sz : Nat) (res : St) (hf : fX6_keeps_k25 mm x1 = some res) : Met l yX6_keeps wsX6_keeps ({ frames := 0, cells := 0, slots := 0, locals := 0 }) (mP D (tysX cI cZ) [.ref (A 0), .int x1, .ref (A 25)] (wX6 cI cZ A mm) sz) (mQv D (wX6 cI cZ A mm) (wX6 cI cZ A res) sz) 0 0 (va_A (wX6 cI cZ A mm) sz) := by
  refine mkM_v (cc := cX6_keeps) (maxL := 4) (own := RX6) (by decide +kernel) rfl rfl (Nat.le_of_ble_eq_true rfl) ?_
  intro p e s m args below meth c A0 Q S hK hG hA hR
  obtain ⟨hx, hb, hml, hown, hts⟩ := id S
  have k114 := hts (.fieldLink RX6 114 "SwitchFloorModel" "kept" "[I") (by decide +kernel)
  have iX6 : ∀ w ∈ wsX60, w ∈ wsX6_keeps := by decide +kernel
  have B2 : ∀ (x1 : Int32) (mm : St) (x3 : Int32), fX6_keeps_k25_L2 x1 mm x3 = some res → Bk p l e ({ frames := 0, cells := 0, slots := 0, locals := 0 }) s m args below meth c Q A0 D 4 0 0 (wX6 cI cZ A mm) [(0, .ref (A 0)), (1, .int x1), (2, .ref (A 25)), (3, .int x3)] 2 [] := by
    intro x1 mm x3 hf
    refine loop_ind (step := (fun k a => fX6_keeps_k25_S2 k x1 (a.1) (a.2))) (fun a => Bk p l e ({ frames := 0, cells := 0, slots := 0, locals := 0 }) s m args below meth c Q A0 D 4 0 0 (wX6 cI cZ A (a.1)) [(0, .ref (A 0)), (1, .int x1), (2, .ref (A 25)), (3, .int (a.2))] 2 []) ?_ _ _ hf
    clear hf
    intro k2 hk2 a hf
    obtain ⟨mm_, x3_⟩ := a
    clear mm x3
    obtain ⟨mm, e_⟩ : ∃ z, z = mm_ := ⟨_, rfl⟩
    subst e_
    obtain ⟨x3, e_⟩ : ∃ z, z = x3_ := ⟨_, rfl⟩
    subst e_
    have hf : fX6_keeps_k25_S2 k2 x1 mm x3 = some res := hf
    show Bk p l e ({ frames := 0, cells := 0, slots := 0, locals := 0 }) s m args below meth c Q A0 D 4 0 0 (wX6 cI cZ A mm) [(0, .ref (A 0)), (1, .int x1), (2, .ref (A 25)), (3, .int x3)] 2 []
    unfold fX6_keeps_k25_S2 at hf
    intro H locs hP hD hS ls hl
    refine lv_iload_n hx hb dX6_keeps_2 rfl (lv_at hl 3 rfl) ?_
    refine lv_aload_n hx hb dX6_keeps_3 rfl (lv_at hl 2 rfl) ?_
    refine va_alen (v := 48) hx hb hK hP 25 0 (gX6_25 _ _ _ _) rfl rfl dX6_keeps_4 ?_
    refine lv_icmp_ge (tgt := 25) hx hb dX6_keeps_5 (by decide) (fun c5 => ?_) (fun c5 => ?_)
    · have hf := if_t c5 hf
      exact hR _ ls H locs _ (congrArg (fun q => (wX6 cI cZ A q)) (Option.some.inj hf)) dX6_keeps_25 hP hD hS
    · have hf := if_f c5 hf
      refine lv_aload_n hx hb dX6_keeps_8 rfl (lv_at hl 0 rfl) ?_
      refine ld_f S iX6 hK hP 0 36 (.ref (A 34)) (gX6_0 _ _ _ _) rfl (by decide) k114 rfl rfl dX6_keeps_9 ?_
      refine lv_iload_n hx hb dX6_keeps_12 rfl (lv_at hl 1 rfl) ?_
      refine lv_iload_n hx hb dX6_keeps_13 rfl (lv_at hl 3 rfl) ?_
      refine lv_iadd hx hb dX6_keeps_14 ?_
      refine lv_aload_n hx hb dX6_keeps_15 rfl (lv_at hl 2 rfl) ?_
      refine lv_iload_n hx hb dX6_keeps_16 rfl (lv_at hl 3 rfl) ?_
      obtain ⟨c17, hf⟩ := ck_t hf
      refine va_iald (f := mm 26) hx hb hK hP 25 0 (gX6_25 _ _ _ _) rfl (inb_in c17) dX6_keeps_17 ?_
      obtain ⟨c18, hf⟩ := ck_t hf
      refine st_i hx hb hK hP hD hS 34 0 (sX6_34 _ _ _ _ _ _) (gX6_34 _ _ _ _) rfl c18 dX6_keeps_18 (fun H locs hP hD hS => ?_)
      refine lv_iinc (v := x3 + 1) (lv' := [(3, .int (x3 + 1)), (0, .ref (A 0)), (1, .int x1), (2, .ref (A 25))]) hx hb dX6_keeps_19 hl (k := 3) rfl rfl (by decide) rfl (fun ls hl => ?_)
      refine lv_goto (tgt := 2) hx hb dX6_keeps_22 (by decide) ?_
      exact hk2 _ hf H locs hP hD hS ls (lv_sub hl [1, 2, 3, 0] rfl)
  intro H locs hP hD hS ls hl
  have hl : lv_has ls 4 [(0, .ref (A 0)), (1, .int x1), (2, .ref (A 25))] := hl
  unfold fX6_keeps_k25 at hf
  refine lv_iconst (v := 0) hx hb dX6_keeps_0 (by decide) ?_
  refine lv_istore_n (lv' := [(3, .int 0), (0, .ref (A 0)), (1, .int x1), (2, .ref (A 25))]) hx hb dX6_keeps_1 rfl hl (by decide) rfl (fun ls hl => ?_)
  exact B2 _ _ _ hf H locs hP hD hS ls (lv_sub hl [1, 2, 3, 0] rfl)
set_option maxHeartbeats 4000000 in
set_option maxRecDepth 100000 in
theorem mX6_back_k25 (l : Launch) (D : va_G) (cI cZ : ClassId) (A : Nat → Nat)  (mm : St) (x1 : Int32) (sz : Nat) (res : St) (hf : fX6_back_k25 mm x1 = some res) : Met l yX6_back wsX6_back ({ frames := 0, cells := 0, slots := 0, locals := 0 }) (mP D (tysX cI cZ) [.ref (A 0), .int x1, .ref (A 25)] (wX6 cI cZ A mm) sz) (mQv D (wX6 cI cZ A mm) (wX6 cI cZ A res) sz) 0 0 (va_A (wX6 cI cZ A mm) sz) := by
  refine mkM_v (cc := cX6_back) (maxL := 4) (own := RX6) (by decide +kernel) rfl rfl (Nat.le_of_ble_eq_true rfl) ?_
  intro p e s m args below meth c A0 Q S hK hG hA hR
  obtain ⟨hx, hb, hml, hown, hts⟩ := id S
  have k114 := hts (.fieldLink RX6 114 "SwitchFloorModel" "kept" "[I") (by decide +kernel)
  have iX6 : ∀ w ∈ wsX60, w ∈ wsX6_back := by decide +kernel
  have B2 : ∀ (x1 : Int32) (mm : St) (x3 : Int32), fX6_back_k25_L2 x1 mm x3 = some res → Bk p l e ({ frames := 0, cells := 0, slots := 0, locals := 0 }) s m args below meth c Q A0 D 4 0 0 (wX6 cI cZ A mm) [(0, .ref (A 0)), (1, .int x1), (2, .ref (A 25)), (3, .int x3)] 2 [] := by
    intro x1 mm x3 hf
    refine loop_ind (step := (fun k a => fX6_back_k25_S2 k x1 (a.1) (a.2))) (fun a => Bk p l e ({ frames := 0, cells := 0, slots := 0, locals := 0 }) s m args below meth c Q A0 D 4 0 0 (wX6 cI cZ A (a.1)) [(0, .ref (A 0)), (1, .int x1), (2, .ref (A 25)), (3, .int (a.2))] 2 []) ?_ _ _ hf
    clear hf
    intro k2 hk2 a hf
    obtain ⟨mm_, x3_⟩ := a
    clear mm x3
    obtain ⟨mm, e_⟩ : ∃ z, z = mm_ := ⟨_, rfl⟩
    subst e_
    obtain ⟨x3, e_⟩ : ∃ z, z = x3_ := ⟨_, rfl⟩
    subst e_
    have hf : fX6_back_k25_S2 k2 x1 mm x3 = some res := hf
    show Bk p l e ({ frames := 0, cells := 0, slots := 0, locals := 0 }) s m args below meth c Q A0 D 4 0 0 (wX6 cI cZ A mm) [(0, .ref (A 0)), (1, .int x1), (2, .ref (A 25)), (3, .int x3)] 2 []
    unfold fX6_back_k25_S2 at hf
    intro H locs hP hD hS ls hl
    refine lv_iload_n hx hb dX6_back_2 rfl (lv_at hl 3 rfl) ?_
    refine lv_aload_n hx hb dX6_back_3 rfl (lv_at hl 2 rfl) ?_
    refine va_alen (v := 48) hx hb hK hP 25 0 (gX6_25 _ _ _ _) rfl rfl dX6_back_4 ?_
    refine lv_icmp_ge (tgt := 25) hx hb dX6_back_5 (by decide) (fun c5 => ?_) (fun c5 => ?_)
    · have hf := if_t c5 hf
      exact hR _ ls H locs _ (congrArg (fun q => (wX6 cI cZ A q)) (Option.some.inj hf)) dX6_back_25 hP hD hS
    · have hf := if_f c5 hf
      refine lv_aload_n hx hb dX6_back_8 rfl (lv_at hl 2 rfl) ?_
      refine lv_iload_n hx hb dX6_back_9 rfl (lv_at hl 3 rfl) ?_
      refine lv_aload_n hx hb dX6_back_10 rfl (lv_at hl 0 rfl) ?_
      refine ld_f S iX6 hK hP 0 36 (.ref (A 34)) (gX6_0 _ _ _ _) rfl (by decide) k114 rfl rfl dX6_back_11 ?_
      refine lv_iload_n hx hb dX6_back_14 rfl (lv_at hl 1 rfl) ?_
      refine lv_iload_n hx hb dX6_back_15 rfl (lv_at hl 3 rfl) ?_
      refine lv_iadd hx hb dX6_back_16 ?_
      obtain ⟨c17, hf⟩ := ck_t hf
      refine va_iald (f := mm 36) hx hb hK hP 34 0 (gX6_34 _ _ _ _) rfl (inb_in c17) dX6_back_17 ?_
      obtain ⟨c18, hf⟩ := ck_t hf
      refine st_i hx hb hK hP hD hS 25 0 (sX6_25 _ _ _ _ _ _) (gX6_25 _ _ _ _) rfl c18 dX6_back_18 (fun H locs hP hD hS => ?_)
      refine lv_iinc (v := x3 + 1) (lv' := [(3, .int (x3 + 1)), (0, .ref (A 0)), (1, .int x1), (2, .ref (A 25))]) hx hb dX6_back_19 hl (k := 3) rfl rfl (by decide) rfl (fun ls hl => ?_)
      refine lv_goto (tgt := 2) hx hb dX6_back_22 (by decide) ?_
      exact hk2 _ hf H locs hP hD hS ls (lv_sub hl [1, 2, 3, 0] rfl)
  intro H locs hP hD hS ls hl
  have hl : lv_has ls 4 [(0, .ref (A 0)), (1, .int x1), (2, .ref (A 25))] := hl
  unfold fX6_back_k25 at hf
  refine lv_iconst (v := 0) hx hb dX6_back_0 (by decide) ?_
  refine lv_istore_n (lv' := [(3, .int 0), (0, .ref (A 0)), (1, .int x1), (2, .ref (A 25))]) hx hb dX6_back_1 rfl hl (by decide) rfl (fun ls hl => ?_)
  exact B2 _ _ _ hf H locs hP hD hS ls (lv_sub hl [1, 2, 3, 0] rfl)
set_option maxHeartbeats 4000000 in
set_option maxRecDepth 100000 in
theorem mX6_keeps_k24 (l : Launch) (D : va_G) (cI cZ : ClassId) (A : Nat → Nat)  (mm : St) (x1 : Int32) (sz : Nat) (res : St) (hf : fX6_keeps_k24 mm x1 = some res) : Met l yX6_keeps wsX6_keeps ({ frames := 0, cells := 0, slots := 0, locals := 0 }) (mP D (tysX cI cZ) [.ref (A 0), .int x1, .ref (A 24)] (wX6 cI cZ A mm) sz) (mQv D (wX6 cI cZ A mm) (wX6 cI cZ A res) sz) 0 0 (va_A (wX6 cI cZ A mm) sz) := by
  refine mkM_v (cc := cX6_keeps) (maxL := 4) (own := RX6) (by decide +kernel) rfl rfl (Nat.le_of_ble_eq_true rfl) ?_
  intro p e s m args below meth c A0 Q S hK hG hA hR
  obtain ⟨hx, hb, hml, hown, hts⟩ := id S
  have k114 := hts (.fieldLink RX6 114 "SwitchFloorModel" "kept" "[I") (by decide +kernel)
  have iX6 : ∀ w ∈ wsX60, w ∈ wsX6_keeps := by decide +kernel
  have B2 : ∀ (x1 : Int32) (mm : St) (x3 : Int32), fX6_keeps_k24_L2 x1 mm x3 = some res → Bk p l e ({ frames := 0, cells := 0, slots := 0, locals := 0 }) s m args below meth c Q A0 D 4 0 0 (wX6 cI cZ A mm) [(0, .ref (A 0)), (1, .int x1), (2, .ref (A 24)), (3, .int x3)] 2 [] := by
    intro x1 mm x3 hf
    refine loop_ind (step := (fun k a => fX6_keeps_k24_S2 k x1 (a.1) (a.2))) (fun a => Bk p l e ({ frames := 0, cells := 0, slots := 0, locals := 0 }) s m args below meth c Q A0 D 4 0 0 (wX6 cI cZ A (a.1)) [(0, .ref (A 0)), (1, .int x1), (2, .ref (A 24)), (3, .int (a.2))] 2 []) ?_ _ _ hf
    clear hf
    intro k2 hk2 a hf
    obtain ⟨mm_, x3_⟩ := a
    clear mm x3
    obtain ⟨mm, e_⟩ : ∃ z, z = mm_ := ⟨_, rfl⟩
    subst e_
    obtain ⟨x3, e_⟩ : ∃ z, z = x3_ := ⟨_, rfl⟩
    subst e_
    have hf : fX6_keeps_k24_S2 k2 x1 mm x3 = some res := hf
    show Bk p l e ({ frames := 0, cells := 0, slots := 0, locals := 0 }) s m args below meth c Q A0 D 4 0 0 (wX6 cI cZ A mm) [(0, .ref (A 0)), (1, .int x1), (2, .ref (A 24)), (3, .int x3)] 2 []
    unfold fX6_keeps_k24_S2 at hf
    intro H locs hP hD hS ls hl
    refine lv_iload_n hx hb dX6_keeps_2 rfl (lv_at hl 3 rfl) ?_
    refine lv_aload_n hx hb dX6_keeps_3 rfl (lv_at hl 2 rfl) ?_
    refine va_alen (v := 48) hx hb hK hP 24 0 (gX6_24 _ _ _ _) rfl rfl dX6_keeps_4 ?_
    refine lv_icmp_ge (tgt := 25) hx hb dX6_keeps_5 (by decide) (fun c5 => ?_) (fun c5 => ?_)
    · have hf := if_t c5 hf
      exact hR _ ls H locs _ (congrArg (fun q => (wX6 cI cZ A q)) (Option.some.inj hf)) dX6_keeps_25 hP hD hS
    · have hf := if_f c5 hf
      refine lv_aload_n hx hb dX6_keeps_8 rfl (lv_at hl 0 rfl) ?_
      refine ld_f S iX6 hK hP 0 36 (.ref (A 34)) (gX6_0 _ _ _ _) rfl (by decide) k114 rfl rfl dX6_keeps_9 ?_
      refine lv_iload_n hx hb dX6_keeps_12 rfl (lv_at hl 1 rfl) ?_
      refine lv_iload_n hx hb dX6_keeps_13 rfl (lv_at hl 3 rfl) ?_
      refine lv_iadd hx hb dX6_keeps_14 ?_
      refine lv_aload_n hx hb dX6_keeps_15 rfl (lv_at hl 2 rfl) ?_
      refine lv_iload_n hx hb dX6_keeps_16 rfl (lv_at hl 3 rfl) ?_
      obtain ⟨c17, hf⟩ := ck_t hf
      refine va_iald (f := mm 25) hx hb hK hP 24 0 (gX6_24 _ _ _ _) rfl (inb_in c17) dX6_keeps_17 ?_
      obtain ⟨c18, hf⟩ := ck_t hf
      refine st_i hx hb hK hP hD hS 34 0 (sX6_34 _ _ _ _ _ _) (gX6_34 _ _ _ _) rfl c18 dX6_keeps_18 (fun H locs hP hD hS => ?_)
      refine lv_iinc (v := x3 + 1) (lv' := [(3, .int (x3 + 1)), (0, .ref (A 0)), (1, .int x1), (2, .ref (A 24))]) hx hb dX6_keeps_19 hl (k := 3) rfl rfl (by decide) rfl (fun ls hl => ?_)
      refine lv_goto (tgt := 2) hx hb dX6_keeps_22 (by decide) ?_
      exact hk2 _ hf H locs hP hD hS ls (lv_sub hl [1, 2, 3, 0] rfl)
  intro H locs hP hD hS ls hl
  have hl : lv_has ls 4 [(0, .ref (A 0)), (1, .int x1), (2, .ref (A 24))] := hl
  unfold fX6_keeps_k24 at hf
  refine lv_iconst (v := 0) hx hb dX6_keeps_0 (by decide) ?_
  refine lv_istore_n (lv' := [(3, .int 0), (0, .ref (A 0)), (1, .int x1), (2, .ref (A 24))]) hx hb dX6_keeps_1 rfl hl (by decide) rfl (fun ls hl => ?_)
  exact B2 _ _ _ hf H locs hP hD hS ls (lv_sub hl [1, 2, 3, 0] rfl)
set_option maxHeartbeats 4000000 in
set_option maxRecDepth 100000 in
theorem mX6_back_k24 (l : Launch) (D : va_G) (cI cZ : ClassId) (A : Nat → Nat)  (mm : St) (x1 : Int32) (sz : Nat) (res : St) (hf : fX6_back_k24 mm x1 = some res) : Met l yX6_back wsX6_back ({ frames := 0, cells := 0, slots := 0, locals := 0 }) (mP D (tysX cI cZ) [.ref (A 0), .int x1, .ref (A 24)] (wX6 cI cZ A mm) sz) (mQv D (wX6 cI cZ A mm) (wX6 cI cZ A res) sz) 0 0 (va_A (wX6 cI cZ A mm) sz) := by
  refine mkM_v (cc := cX6_back) (maxL := 4) (own := RX6) (by decide +kernel) rfl rfl (Nat.le_of_ble_eq_true rfl) ?_
  intro p e s m args below meth c A0 Q S hK hG hA hR
  obtain ⟨hx, hb, hml, hown, hts⟩ := id S
  have k114 := hts (.fieldLink RX6 114 "SwitchFloorModel" "kept" "[I") (by decide +kernel)
  have iX6 : ∀ w ∈ wsX60, w ∈ wsX6_back := by decide +kernel
  have B2 : ∀ (x1 : Int32) (mm : St) (x3 : Int32), fX6_back_k24_L2 x1 mm x3 = some res → Bk p l e ({ frames := 0, cells := 0, slots := 0, locals := 0 }) s m args below meth c Q A0 D 4 0 0 (wX6 cI cZ A mm) [(0, .ref (A 0)), (1, .int x1), (2, .ref (A 24)), (3, .int x3)] 2 [] := by
    intro x1 mm x3 hf
    refine loop_ind (step := (fun k a => fX6_back_k24_S2 k x1 (a.1) (a.2))) (fun a => Bk p l e ({ frames := 0, cells := 0, slots := 0, locals := 0 }) s m args below meth c Q A0 D 4 0 0 (wX6 cI cZ A (a.1)) [(0, .ref (A 0)), (1, .int x1), (2, .ref (A 24)), (3, .int (a.2))] 2 []) ?_ _ _ hf
    clear hf
    intro k2 hk2 a hf
    obtain ⟨mm_, x3_⟩ := a
    clear mm x3
    obtain ⟨mm, e_⟩ : ∃ z, z = mm_ := ⟨_, rfl⟩
    subst e_
    obtain ⟨x3, e_⟩ : ∃ z, z = x3_ := ⟨_, rfl⟩
    subst e_
    have hf : fX6_back_k24_S2 k2 x1 mm x3 = some res := hf
    show Bk p l e ({ frames := 0, cells := 0, slots := 0, locals := 0 }) s m args below meth c Q A0 D 4 0 0 (wX6 cI cZ A mm) [(0, .ref (A 0)), (1, .int x1), (2, .ref (A 24)), (3, .int x3)] 2 []
    unfold fX6_back_k24_S2 at hf
    intro H locs hP hD hS ls hl
    refine lv_iload_n hx hb dX6_back_2 rfl (lv_at hl 3 rfl) ?_
    refine lv_aload_n hx hb dX6_back_3 rfl (lv_at hl 2 rfl) ?_
    refine va_alen (v := 48) hx hb hK hP 24 0 (gX6_24 _ _ _ _) rfl rfl dX6_back_4 ?_
    refine lv_icmp_ge (tgt := 25) hx hb dX6_back_5 (by decide) (fun c5 => ?_) (fun c5 => ?_)
    · have hf := if_t c5 hf
      exact hR _ ls H locs _ (congrArg (fun q => (wX6 cI cZ A q)) (Option.some.inj hf)) dX6_back_25 hP hD hS
    · have hf := if_f c5 hf
      refine lv_aload_n hx hb dX6_back_8 rfl (lv_at hl 2 rfl) ?_
      refine lv_iload_n hx hb dX6_back_9 rfl (lv_at hl 3 rfl) ?_
      refine lv_aload_n hx hb dX6_back_10 rfl (lv_at hl 0 rfl) ?_
      refine ld_f S iX6 hK hP 0 36 (.ref (A 34)) (gX6_0 _ _ _ _) rfl (by decide) k114 rfl rfl dX6_back_11 ?_
      refine lv_iload_n hx hb dX6_back_14 rfl (lv_at hl 1 rfl) ?_
      refine lv_iload_n hx hb dX6_back_15 rfl (lv_at hl 3 rfl) ?_
      refine lv_iadd hx hb dX6_back_16 ?_
      obtain ⟨c17, hf⟩ := ck_t hf
      refine va_iald (f := mm 36) hx hb hK hP 34 0 (gX6_34 _ _ _ _) rfl (inb_in c17) dX6_back_17 ?_
      obtain ⟨c18, hf⟩ := ck_t hf
      refine st_i hx hb hK hP hD hS 24 0 (sX6_24 _ _ _ _ _ _) (gX6_24 _ _ _ _) rfl c18 dX6_back_18 (fun H locs hP hD hS => ?_)
      refine lv_iinc (v := x3 + 1) (lv' := [(3, .int (x3 + 1)), (0, .ref (A 0)), (1, .int x1), (2, .ref (A 24))]) hx hb dX6_back_19 hl (k := 3) rfl rfl (by decide) rfl (fun ls hl => ?_)
      refine lv_goto (tgt := 2) hx hb dX6_back_22 (by decide) ?_
      exact hk2 _ hf H locs hP hD hS ls (lv_sub hl [1, 2, 3, 0] rfl)
  intro H locs hP hD hS ls hl
  have hl : lv_has ls 4 [(0, .ref (A 0)), (1, .int x1), (2, .ref (A 24))] := hl
  unfold fX6_back_k24 at hf
  refine lv_iconst (v := 0) hx hb dX6_back_0 (by decide) ?_
  refine lv_istore_n (lv' := [(3, .int 0), (0, .ref (A 0)), (1, .int x1), (2, .ref (A 24))]) hx hb dX6_back_1 rfl hl (by decide) rfl (fun ls hl => ?_)
  exact B2 _ _ _ hf H locs hP hD hS ls (lv_sub hl [1, 2, 3, 0] rfl)
set_option maxHeartbeats 4000000 in
set_option maxRecDepth 100000 in
theorem mX6_keeps_k23 (l : Launch) (D : va_G) (cI cZ : ClassId) (A : Nat → Nat)  (mm : St) (x1 : Int32) (sz : Nat) (res : St) (hf : fX6_keeps_k23 mm x1 = some res) : Met l yX6_keeps wsX6_keeps ({ frames := 0, cells := 0, slots := 0, locals := 0 }) (mP D (tysX cI cZ) [.ref (A 0), .int x1, .ref (A 23)] (wX6 cI cZ A mm) sz) (mQv D (wX6 cI cZ A mm) (wX6 cI cZ A res) sz) 0 0 (va_A (wX6 cI cZ A mm) sz) := by
  refine mkM_v (cc := cX6_keeps) (maxL := 4) (own := RX6) (by decide +kernel) rfl rfl (Nat.le_of_ble_eq_true rfl) ?_
  intro p e s m args below meth c A0 Q S hK hG hA hR
  obtain ⟨hx, hb, hml, hown, hts⟩ := id S
  have k114 := hts (.fieldLink RX6 114 "SwitchFloorModel" "kept" "[I") (by decide +kernel)
  have iX6 : ∀ w ∈ wsX60, w ∈ wsX6_keeps := by decide +kernel
  have B2 : ∀ (x1 : Int32) (mm : St) (x3 : Int32), fX6_keeps_k23_L2 x1 mm x3 = some res → Bk p l e ({ frames := 0, cells := 0, slots := 0, locals := 0 }) s m args below meth c Q A0 D 4 0 0 (wX6 cI cZ A mm) [(0, .ref (A 0)), (1, .int x1), (2, .ref (A 23)), (3, .int x3)] 2 [] := by
    intro x1 mm x3 hf
    refine loop_ind (step := (fun k a => fX6_keeps_k23_S2 k x1 (a.1) (a.2))) (fun a => Bk p l e ({ frames := 0, cells := 0, slots := 0, locals := 0 }) s m args below meth c Q A0 D 4 0 0 (wX6 cI cZ A (a.1)) [(0, .ref (A 0)), (1, .int x1), (2, .ref (A 23)), (3, .int (a.2))] 2 []) ?_ _ _ hf
    clear hf
    intro k2 hk2 a hf
    obtain ⟨mm_, x3_⟩ := a
    clear mm x3
    obtain ⟨mm, e_⟩ : ∃ z, z = mm_ := ⟨_, rfl⟩
    subst e_
    obtain ⟨x3, e_⟩ : ∃ z, z = x3_ := ⟨_, rfl⟩
    subst e_
    have hf : fX6_keeps_k23_S2 k2 x1 mm x3 = some res := hf
    show Bk p l e ({ frames := 0, cells := 0, slots := 0, locals := 0 }) s m args below meth c Q A0 D 4 0 0 (wX6 cI cZ A mm) [(0, .ref (A 0)), (1, .int x1), (2, .ref (A 23)), (3, .int x3)] 2 []
    unfold fX6_keeps_k23_S2 at hf
    intro H locs hP hD hS ls hl
    refine lv_iload_n hx hb dX6_keeps_2 rfl (lv_at hl 3 rfl) ?_
    refine lv_aload_n hx hb dX6_keeps_3 rfl (lv_at hl 2 rfl) ?_
    refine va_alen (v := 6) hx hb hK hP 23 0 (gX6_23 _ _ _ _) rfl rfl dX6_keeps_4 ?_
    refine lv_icmp_ge (tgt := 25) hx hb dX6_keeps_5 (by decide) (fun c5 => ?_) (fun c5 => ?_)
    · have hf := if_t c5 hf
      exact hR _ ls H locs _ (congrArg (fun q => (wX6 cI cZ A q)) (Option.some.inj hf)) dX6_keeps_25 hP hD hS
    · have hf := if_f c5 hf
      refine lv_aload_n hx hb dX6_keeps_8 rfl (lv_at hl 0 rfl) ?_
      refine ld_f S iX6 hK hP 0 36 (.ref (A 34)) (gX6_0 _ _ _ _) rfl (by decide) k114 rfl rfl dX6_keeps_9 ?_
      refine lv_iload_n hx hb dX6_keeps_12 rfl (lv_at hl 1 rfl) ?_
      refine lv_iload_n hx hb dX6_keeps_13 rfl (lv_at hl 3 rfl) ?_
      refine lv_iadd hx hb dX6_keeps_14 ?_
      refine lv_aload_n hx hb dX6_keeps_15 rfl (lv_at hl 2 rfl) ?_
      refine lv_iload_n hx hb dX6_keeps_16 rfl (lv_at hl 3 rfl) ?_
      obtain ⟨c17, hf⟩ := ck_t hf
      refine va_iald (f := mm 24) hx hb hK hP 23 0 (gX6_23 _ _ _ _) rfl (inb_in c17) dX6_keeps_17 ?_
      obtain ⟨c18, hf⟩ := ck_t hf
      refine st_i hx hb hK hP hD hS 34 0 (sX6_34 _ _ _ _ _ _) (gX6_34 _ _ _ _) rfl c18 dX6_keeps_18 (fun H locs hP hD hS => ?_)
      refine lv_iinc (v := x3 + 1) (lv' := [(3, .int (x3 + 1)), (0, .ref (A 0)), (1, .int x1), (2, .ref (A 23))]) hx hb dX6_keeps_19 hl (k := 3) rfl rfl (by decide) rfl (fun ls hl => ?_)
      refine lv_goto (tgt := 2) hx hb dX6_keeps_22 (by decide) ?_
      exact hk2 _ hf H locs hP hD hS ls (lv_sub hl [1, 2, 3, 0] rfl)
  intro H locs hP hD hS ls hl
  have hl : lv_has ls 4 [(0, .ref (A 0)), (1, .int x1), (2, .ref (A 23))] := hl
  unfold fX6_keeps_k23 at hf
  refine lv_iconst (v := 0) hx hb dX6_keeps_0 (by decide) ?_
  refine lv_istore_n (lv' := [(3, .int 0), (0, .ref (A 0)), (1, .int x1), (2, .ref (A 23))]) hx hb dX6_keeps_1 rfl hl (by decide) rfl (fun ls hl => ?_)
  exact B2 _ _ _ hf H locs hP hD hS ls (lv_sub hl [1, 2, 3, 0] rfl)
set_option maxHeartbeats 4000000 in
set_option maxRecDepth 100000 in
theorem mX6_back_k23 (l : Launch) (D : va_G) (cI cZ : ClassId) (A : Nat → Nat)  (mm : St) (x1 : Int32) (sz : Nat) (res : St) (hf : fX6_back_k23 mm x1 = some res) : Met l yX6_back wsX6_back ({ frames := 0, cells := 0, slots := 0, locals := 0 }) (mP D (tysX cI cZ) [.ref (A 0), .int x1, .ref (A 23)] (wX6 cI cZ A mm) sz) (mQv D (wX6 cI cZ A mm) (wX6 cI cZ A res) sz) 0 0 (va_A (wX6 cI cZ A mm) sz) := by
  refine mkM_v (cc := cX6_back) (maxL := 4) (own := RX6) (by decide +kernel) rfl rfl (Nat.le_of_ble_eq_true rfl) ?_
  intro p e s m args below meth c A0 Q S hK hG hA hR
  obtain ⟨hx, hb, hml, hown, hts⟩ := id S
  have k114 := hts (.fieldLink RX6 114 "SwitchFloorModel" "kept" "[I") (by decide +kernel)
  have iX6 : ∀ w ∈ wsX60, w ∈ wsX6_back := by decide +kernel
  have B2 : ∀ (x1 : Int32) (mm : St) (x3 : Int32), fX6_back_k23_L2 x1 mm x3 = some res → Bk p l e ({ frames := 0, cells := 0, slots := 0, locals := 0 }) s m args below meth c Q A0 D 4 0 0 (wX6 cI cZ A mm) [(0, .ref (A 0)), (1, .int x1), (2, .ref (A 23)), (3, .int x3)] 2 [] := by
    intro x1 mm x3 hf
    refine loop_ind (step := (fun k a => fX6_back_k23_S2 k x1 (a.1) (a.2))) (fun a => Bk p l e ({ frames := 0, cells := 0, slots := 0, locals := 0 }) s m args below meth c Q A0 D 4 0 0 (wX6 cI cZ A (a.1)) [(0, .ref (A 0)), (1, .int x1), (2, .ref (A 23)), (3, .int (a.2))] 2 []) ?_ _ _ hf
    clear hf
    intro k2 hk2 a hf
    obtain ⟨mm_, x3_⟩ := a
    clear mm x3
    obtain ⟨mm, e_⟩ : ∃ z, z = mm_ := ⟨_, rfl⟩
    subst e_
    obtain ⟨x3, e_⟩ : ∃ z, z = x3_ := ⟨_, rfl⟩
    subst e_
    have hf : fX6_back_k23_S2 k2 x1 mm x3 = some res := hf
    show Bk p l e ({ frames := 0, cells := 0, slots := 0, locals := 0 }) s m args below meth c Q A0 D 4 0 0 (wX6 cI cZ A mm) [(0, .ref (A 0)), (1, .int x1), (2, .ref (A 23)), (3, .int x3)] 2 []
    unfold fX6_back_k23_S2 at hf
    intro H locs hP hD hS ls hl
    refine lv_iload_n hx hb dX6_back_2 rfl (lv_at hl 3 rfl) ?_
    refine lv_aload_n hx hb dX6_back_3 rfl (lv_at hl 2 rfl) ?_
    refine va_alen (v := 6) hx hb hK hP 23 0 (gX6_23 _ _ _ _) rfl rfl dX6_back_4 ?_
    refine lv_icmp_ge (tgt := 25) hx hb dX6_back_5 (by decide) (fun c5 => ?_) (fun c5 => ?_)
    · have hf := if_t c5 hf
      exact hR _ ls H locs _ (congrArg (fun q => (wX6 cI cZ A q)) (Option.some.inj hf)) dX6_back_25 hP hD hS
    · have hf := if_f c5 hf
      refine lv_aload_n hx hb dX6_back_8 rfl (lv_at hl 2 rfl) ?_
      refine lv_iload_n hx hb dX6_back_9 rfl (lv_at hl 3 rfl) ?_
      refine lv_aload_n hx hb dX6_back_10 rfl (lv_at hl 0 rfl) ?_
      refine ld_f S iX6 hK hP 0 36 (.ref (A 34)) (gX6_0 _ _ _ _) rfl (by decide) k114 rfl rfl dX6_back_11 ?_
      refine lv_iload_n hx hb dX6_back_14 rfl (lv_at hl 1 rfl) ?_
      refine lv_iload_n hx hb dX6_back_15 rfl (lv_at hl 3 rfl) ?_
      refine lv_iadd hx hb dX6_back_16 ?_
      obtain ⟨c17, hf⟩ := ck_t hf
      refine va_iald (f := mm 36) hx hb hK hP 34 0 (gX6_34 _ _ _ _) rfl (inb_in c17) dX6_back_17 ?_
      obtain ⟨c18, hf⟩ := ck_t hf
      refine st_i hx hb hK hP hD hS 23 0 (sX6_23 _ _ _ _ _ _) (gX6_23 _ _ _ _) rfl c18 dX6_back_18 (fun H locs hP hD hS => ?_)
      refine lv_iinc (v := x3 + 1) (lv' := [(3, .int (x3 + 1)), (0, .ref (A 0)), (1, .int x1), (2, .ref (A 23))]) hx hb dX6_back_19 hl (k := 3) rfl rfl (by decide) rfl (fun ls hl => ?_)
      refine lv_goto (tgt := 2) hx hb dX6_back_22 (by decide) ?_
      exact hk2 _ hf H locs hP hD hS ls (lv_sub hl [1, 2, 3, 0] rfl)
  intro H locs hP hD hS ls hl
  have hl : lv_has ls 4 [(0, .ref (A 0)), (1, .int x1), (2, .ref (A 23))] := hl
  unfold fX6_back_k23 at hf
  refine lv_iconst (v := 0) hx hb dX6_back_0 (by decide) ?_
  refine lv_istore_n (lv' := [(3, .int 0), (0, .ref (A 0)), (1, .int x1), (2, .ref (A 23))]) hx hb dX6_back_1 rfl hl (by decide) rfl (fun ls hl => ?_)
  exact B2 _ _ _ hf H locs hP hD hS ls (lv_sub hl [1, 2, 3, 0] rfl)
set_option maxHeartbeats 4000000 in
set_option maxRecDepth 100000 in
theorem mX6_keeps_k14 (l : Launch) (D : va_G) (cI cZ : ClassId) (A : Nat → Nat)  (mm : St) (x1 : Int32) (sz : Nat) (res : St) (hf : fX6_keeps_k14 mm x1 = some res) : Met l yX6_keeps wsX6_keeps ({ frames := 0, cells := 0, slots := 0, locals := 0 }) (mP D (tysX cI cZ) [.ref (A 0), .int x1, .ref (A 14)] (wX6 cI cZ A mm) sz) (mQv D (wX6 cI cZ A mm) (wX6 cI cZ A res) sz) 0 0 (va_A (wX6 cI cZ A mm) sz) := by
  refine mkM_v (cc := cX6_keeps) (maxL := 4) (own := RX6) (by decide +kernel) rfl rfl (Nat.le_of_ble_eq_true rfl) ?_
  intro p e s m args below meth c A0 Q S hK hG hA hR
  obtain ⟨hx, hb, hml, hown, hts⟩ := id S
  have k114 := hts (.fieldLink RX6 114 "SwitchFloorModel" "kept" "[I") (by decide +kernel)
  have iX6 : ∀ w ∈ wsX60, w ∈ wsX6_keeps := by decide +kernel
  have B2 : ∀ (x1 : Int32) (mm : St) (x3 : Int32), fX6_keeps_k14_L2 x1 mm x3 = some res → Bk p l e ({ frames := 0, cells := 0, slots := 0, locals := 0 }) s m args below meth c Q A0 D 4 0 0 (wX6 cI cZ A mm) [(0, .ref (A 0)), (1, .int x1), (2, .ref (A 14)), (3, .int x3)] 2 [] := by
    intro x1 mm x3 hf
    refine loop_ind (step := (fun k a => fX6_keeps_k14_S2 k x1 (a.1) (a.2))) (fun a => Bk p l e ({ frames := 0, cells := 0, slots := 0, locals := 0 }) s m args below meth c Q A0 D 4 0 0 (wX6 cI cZ A (a.1)) [(0, .ref (A 0)), (1, .int x1), (2, .ref (A 14)), (3, .int (a.2))] 2 []) ?_ _ _ hf
    clear hf
    intro k2 hk2 a hf
    obtain ⟨mm_, x3_⟩ := a
    clear mm x3
    obtain ⟨mm, e_⟩ : ∃ z, z = mm_ := ⟨_, rfl⟩
    subst e_
    obtain ⟨x3, e_⟩ : ∃ z, z = x3_ := ⟨_, rfl⟩
    subst e_
    have hf : fX6_keeps_k14_S2 k2 x1 mm x3 = some res := hf
    show Bk p l e ({ frames := 0, cells := 0, slots := 0, locals := 0 }) s m args below meth c Q A0 D 4 0 0 (wX6 cI cZ A mm) [(0, .ref (A 0)), (1, .int x1), (2, .ref (A 14)), (3, .int x3)] 2 []
    unfold fX6_keeps_k14_S2 at hf
    intro H locs hP hD hS ls hl
    refine lv_iload_n hx hb dX6_keeps_2 rfl (lv_at hl 3 rfl) ?_
    refine lv_aload_n hx hb dX6_keeps_3 rfl (lv_at hl 2 rfl) ?_
    refine va_alen (v := 30) hx hb hK hP 14 0 (gX6_14 _ _ _ _) rfl rfl dX6_keeps_4 ?_
    refine lv_icmp_ge (tgt := 25) hx hb dX6_keeps_5 (by decide) (fun c5 => ?_) (fun c5 => ?_)
    · have hf := if_t c5 hf
      exact hR _ ls H locs _ (congrArg (fun q => (wX6 cI cZ A q)) (Option.some.inj hf)) dX6_keeps_25 hP hD hS
    · have hf := if_f c5 hf
      refine lv_aload_n hx hb dX6_keeps_8 rfl (lv_at hl 0 rfl) ?_
      refine ld_f S iX6 hK hP 0 36 (.ref (A 34)) (gX6_0 _ _ _ _) rfl (by decide) k114 rfl rfl dX6_keeps_9 ?_
      refine lv_iload_n hx hb dX6_keeps_12 rfl (lv_at hl 1 rfl) ?_
      refine lv_iload_n hx hb dX6_keeps_13 rfl (lv_at hl 3 rfl) ?_
      refine lv_iadd hx hb dX6_keeps_14 ?_
      refine lv_aload_n hx hb dX6_keeps_15 rfl (lv_at hl 2 rfl) ?_
      refine lv_iload_n hx hb dX6_keeps_16 rfl (lv_at hl 3 rfl) ?_
      obtain ⟨c17, hf⟩ := ck_t hf
      refine va_iald (f := mm 15) hx hb hK hP 14 0 (gX6_14 _ _ _ _) rfl (inb_in c17) dX6_keeps_17 ?_
      obtain ⟨c18, hf⟩ := ck_t hf
      refine st_i hx hb hK hP hD hS 34 0 (sX6_34 _ _ _ _ _ _) (gX6_34 _ _ _ _) rfl c18 dX6_keeps_18 (fun H locs hP hD hS => ?_)
      refine lv_iinc (v := x3 + 1) (lv' := [(3, .int (x3 + 1)), (0, .ref (A 0)), (1, .int x1), (2, .ref (A 14))]) hx hb dX6_keeps_19 hl (k := 3) rfl rfl (by decide) rfl (fun ls hl => ?_)
      refine lv_goto (tgt := 2) hx hb dX6_keeps_22 (by decide) ?_
      exact hk2 _ hf H locs hP hD hS ls (lv_sub hl [1, 2, 3, 0] rfl)
  intro H locs hP hD hS ls hl
  have hl : lv_has ls 4 [(0, .ref (A 0)), (1, .int x1), (2, .ref (A 14))] := hl
  unfold fX6_keeps_k14 at hf
  refine lv_iconst (v := 0) hx hb dX6_keeps_0 (by decide) ?_
  refine lv_istore_n (lv' := [(3, .int 0), (0, .ref (A 0)), (1, .int x1), (2, .ref (A 14))]) hx hb dX6_keeps_1 rfl hl (by decide) rfl (fun ls hl => ?_)
  exact B2 _ _ _ hf H locs hP hD hS ls (lv_sub hl [1, 2, 3, 0] rfl)
set_option maxHeartbeats 4000000 in
set_option maxRecDepth 100000 in
theorem mX6_back_k14 (l : Launch) (D : va_G) (cI cZ : ClassId) (A : Nat → Nat)  (mm : St) (x1 : Int32) (sz : Nat) (res : St) (hf : fX6_back_k14 mm x1 = some res) : Met l yX6_back wsX6_back ({ frames := 0, cells := 0, slots := 0, locals := 0 }) (mP D (tysX cI cZ) [.ref (A 0), .int x1, .ref (A 14)] (wX6 cI cZ A mm) sz) (mQv D (wX6 cI cZ A mm) (wX6 cI cZ A res) sz) 0 0 (va_A (wX6 cI cZ A mm) sz) := by
  refine mkM_v (cc := cX6_back) (maxL := 4) (own := RX6) (by decide +kernel) rfl rfl (Nat.le_of_ble_eq_true rfl) ?_
  intro p e s m args below meth c A0 Q S hK hG hA hR
  obtain ⟨hx, hb, hml, hown, hts⟩ := id S
  have k114 := hts (.fieldLink RX6 114 "SwitchFloorModel" "kept" "[I") (by decide +kernel)
  have iX6 : ∀ w ∈ wsX60, w ∈ wsX6_back := by decide +kernel
  have B2 : ∀ (x1 : Int32) (mm : St) (x3 : Int32), fX6_back_k14_L2 x1 mm x3 = some res → Bk p l e ({ frames := 0, cells := 0, slots := 0, locals := 0 }) s m args below meth c Q A0 D 4 0 0 (wX6 cI cZ A mm) [(0, .ref (A 0)), (1, .int x1), (2, .ref (A 14)), (3, .int x3)] 2 [] := by
    intro x1 mm x3 hf
    refine loop_ind (step := (fun k a => fX6_back_k14_S2 k x1 (a.1) (a.2))) (fun a => Bk p l e ({ frames := 0, cells := 0, slots := 0, locals := 0 }) s m args below meth c Q A0 D 4 0 0 (wX6 cI cZ A (a.1)) [(0, .ref (A 0)), (1, .int x1), (2, .ref (A 14)), (3, .int (a.2))] 2 []) ?_ _ _ hf
    clear hf
    intro k2 hk2 a hf
    obtain ⟨mm_, x3_⟩ := a
    clear mm x3
    obtain ⟨mm, e_⟩ : ∃ z, z = mm_ := ⟨_, rfl⟩
    subst e_
    obtain ⟨x3, e_⟩ : ∃ z, z = x3_ := ⟨_, rfl⟩
    subst e_
    have hf : fX6_back_k14_S2 k2 x1 mm x3 = some res := hf
    show Bk p l e ({ frames := 0, cells := 0, slots := 0, locals := 0 }) s m args below meth c Q A0 D 4 0 0 (wX6 cI cZ A mm) [(0, .ref (A 0)), (1, .int x1), (2, .ref (A 14)), (3, .int x3)] 2 []
    unfold fX6_back_k14_S2 at hf
    intro H locs hP hD hS ls hl
    refine lv_iload_n hx hb dX6_back_2 rfl (lv_at hl 3 rfl) ?_
    refine lv_aload_n hx hb dX6_back_3 rfl (lv_at hl 2 rfl) ?_
    refine va_alen (v := 30) hx hb hK hP 14 0 (gX6_14 _ _ _ _) rfl rfl dX6_back_4 ?_
    refine lv_icmp_ge (tgt := 25) hx hb dX6_back_5 (by decide) (fun c5 => ?_) (fun c5 => ?_)
    · have hf := if_t c5 hf
      exact hR _ ls H locs _ (congrArg (fun q => (wX6 cI cZ A q)) (Option.some.inj hf)) dX6_back_25 hP hD hS
    · have hf := if_f c5 hf
      refine lv_aload_n hx hb dX6_back_8 rfl (lv_at hl 2 rfl) ?_
      refine lv_iload_n hx hb dX6_back_9 rfl (lv_at hl 3 rfl) ?_
      refine lv_aload_n hx hb dX6_back_10 rfl (lv_at hl 0 rfl) ?_
      refine ld_f S iX6 hK hP 0 36 (.ref (A 34)) (gX6_0 _ _ _ _) rfl (by decide) k114 rfl rfl dX6_back_11 ?_
      refine lv_iload_n hx hb dX6_back_14 rfl (lv_at hl 1 rfl) ?_
      refine lv_iload_n hx hb dX6_back_15 rfl (lv_at hl 3 rfl) ?_
      refine lv_iadd hx hb dX6_back_16 ?_
      obtain ⟨c17, hf⟩ := ck_t hf
      refine va_iald (f := mm 36) hx hb hK hP 34 0 (gX6_34 _ _ _ _) rfl (inb_in c17) dX6_back_17 ?_
      obtain ⟨c18, hf⟩ := ck_t hf
      refine st_i hx hb hK hP hD hS 14 0 (sX6_14 _ _ _ _ _ _) (gX6_14 _ _ _ _) rfl c18 dX6_back_18 (fun H locs hP hD hS => ?_)
      refine lv_iinc (v := x3 + 1) (lv' := [(3, .int (x3 + 1)), (0, .ref (A 0)), (1, .int x1), (2, .ref (A 14))]) hx hb dX6_back_19 hl (k := 3) rfl rfl (by decide) rfl (fun ls hl => ?_)
      refine lv_goto (tgt := 2) hx hb dX6_back_22 (by decide) ?_
      exact hk2 _ hf H locs hP hD hS ls (lv_sub hl [1, 2, 3, 0] rfl)
  intro H locs hP hD hS ls hl
  have hl : lv_has ls 4 [(0, .ref (A 0)), (1, .int x1), (2, .ref (A 14))] := hl
  unfold fX6_back_k14 at hf
  refine lv_iconst (v := 0) hx hb dX6_back_0 (by decide) ?_
  refine lv_istore_n (lv' := [(3, .int 0), (0, .ref (A 0)), (1, .int x1), (2, .ref (A 14))]) hx hb dX6_back_1 rfl hl (by decide) rfl (fun ls hl => ?_)
  exact B2 _ _ _ hf H locs hP hD hS ls (lv_sub hl [1, 2, 3, 0] rfl)
set_option maxHeartbeats 4000000 in
set_option maxRecDepth 100000 in
theorem mX6_keeps_k10 (l : Launch) (D : va_G) (cI cZ : ClassId) (A : Nat → Nat)  (mm : St) (x1 : Int32) (sz : Nat) (res : St) (hf : fX6_keeps_k10 mm x1 = some res) : Met l yX6_keeps wsX6_keeps ({ frames := 0, cells := 0, slots := 0, locals := 0 }) (mP D (tysX cI cZ) [.ref (A 0), .int x1, .ref (A 10)] (wX6 cI cZ A mm) sz) (mQv D (wX6 cI cZ A mm) (wX6 cI cZ A res) sz) 0 0 (va_A (wX6 cI cZ A mm) sz) := by
  refine mkM_v (cc := cX6_keeps) (maxL := 4) (own := RX6) (by decide +kernel) rfl rfl (Nat.le_of_ble_eq_true rfl) ?_
  intro p e s m args below meth c A0 Q S hK hG hA hR
  obtain ⟨hx, hb, hml, hown, hts⟩ := id S
  have k114 := hts (.fieldLink RX6 114 "SwitchFloorModel" "kept" "[I") (by decide +kernel)
  have iX6 : ∀ w ∈ wsX60, w ∈ wsX6_keeps := by decide +kernel
  have B2 : ∀ (x1 : Int32) (mm : St) (x3 : Int32), fX6_keeps_k10_L2 x1 mm x3 = some res → Bk p l e ({ frames := 0, cells := 0, slots := 0, locals := 0 }) s m args below meth c Q A0 D 4 0 0 (wX6 cI cZ A mm) [(0, .ref (A 0)), (1, .int x1), (2, .ref (A 10)), (3, .int x3)] 2 [] := by
    intro x1 mm x3 hf
    refine loop_ind (step := (fun k a => fX6_keeps_k10_S2 k x1 (a.1) (a.2))) (fun a => Bk p l e ({ frames := 0, cells := 0, slots := 0, locals := 0 }) s m args below meth c Q A0 D 4 0 0 (wX6 cI cZ A (a.1)) [(0, .ref (A 0)), (1, .int x1), (2, .ref (A 10)), (3, .int (a.2))] 2 []) ?_ _ _ hf
    clear hf
    intro k2 hk2 a hf
    obtain ⟨mm_, x3_⟩ := a
    clear mm x3
    obtain ⟨mm, e_⟩ : ∃ z, z = mm_ := ⟨_, rfl⟩
    subst e_
    obtain ⟨x3, e_⟩ : ∃ z, z = x3_ := ⟨_, rfl⟩
    subst e_
    have hf : fX6_keeps_k10_S2 k2 x1 mm x3 = some res := hf
    show Bk p l e ({ frames := 0, cells := 0, slots := 0, locals := 0 }) s m args below meth c Q A0 D 4 0 0 (wX6 cI cZ A mm) [(0, .ref (A 0)), (1, .int x1), (2, .ref (A 10)), (3, .int x3)] 2 []
    unfold fX6_keeps_k10_S2 at hf
    intro H locs hP hD hS ls hl
    refine lv_iload_n hx hb dX6_keeps_2 rfl (lv_at hl 3 rfl) ?_
    refine lv_aload_n hx hb dX6_keeps_3 rfl (lv_at hl 2 rfl) ?_
    refine va_alen (v := 30) hx hb hK hP 10 0 (gX6_10 _ _ _ _) rfl rfl dX6_keeps_4 ?_
    refine lv_icmp_ge (tgt := 25) hx hb dX6_keeps_5 (by decide) (fun c5 => ?_) (fun c5 => ?_)
    · have hf := if_t c5 hf
      exact hR _ ls H locs _ (congrArg (fun q => (wX6 cI cZ A q)) (Option.some.inj hf)) dX6_keeps_25 hP hD hS
    · have hf := if_f c5 hf
      refine lv_aload_n hx hb dX6_keeps_8 rfl (lv_at hl 0 rfl) ?_
      refine ld_f S iX6 hK hP 0 36 (.ref (A 34)) (gX6_0 _ _ _ _) rfl (by decide) k114 rfl rfl dX6_keeps_9 ?_
      refine lv_iload_n hx hb dX6_keeps_12 rfl (lv_at hl 1 rfl) ?_
      refine lv_iload_n hx hb dX6_keeps_13 rfl (lv_at hl 3 rfl) ?_
      refine lv_iadd hx hb dX6_keeps_14 ?_
      refine lv_aload_n hx hb dX6_keeps_15 rfl (lv_at hl 2 rfl) ?_
      refine lv_iload_n hx hb dX6_keeps_16 rfl (lv_at hl 3 rfl) ?_
      obtain ⟨c17, hf⟩ := ck_t hf
      refine va_iald (f := mm 11) hx hb hK hP 10 0 (gX6_10 _ _ _ _) rfl (inb_in c17) dX6_keeps_17 ?_
      obtain ⟨c18, hf⟩ := ck_t hf
      refine st_i hx hb hK hP hD hS 34 0 (sX6_34 _ _ _ _ _ _) (gX6_34 _ _ _ _) rfl c18 dX6_keeps_18 (fun H locs hP hD hS => ?_)
      refine lv_iinc (v := x3 + 1) (lv' := [(3, .int (x3 + 1)), (0, .ref (A 0)), (1, .int x1), (2, .ref (A 10))]) hx hb dX6_keeps_19 hl (k := 3) rfl rfl (by decide) rfl (fun ls hl => ?_)
      refine lv_goto (tgt := 2) hx hb dX6_keeps_22 (by decide) ?_
      exact hk2 _ hf H locs hP hD hS ls (lv_sub hl [1, 2, 3, 0] rfl)
  intro H locs hP hD hS ls hl
  have hl : lv_has ls 4 [(0, .ref (A 0)), (1, .int x1), (2, .ref (A 10))] := hl
  unfold fX6_keeps_k10 at hf
  refine lv_iconst (v := 0) hx hb dX6_keeps_0 (by decide) ?_
  refine lv_istore_n (lv' := [(3, .int 0), (0, .ref (A 0)), (1, .int x1), (2, .ref (A 10))]) hx hb dX6_keeps_1 rfl hl (by decide) rfl (fun ls hl => ?_)
  exact B2 _ _ _ hf H locs hP hD hS ls (lv_sub hl [1, 2, 3, 0] rfl)
set_option maxHeartbeats 4000000 in
set_option maxRecDepth 100000 in
theorem mX6_back_k10 (l : Launch) (D : va_G) (cI cZ : ClassId) (A : Nat → Nat)  (mm : St) (x1 : Int32) (sz : Nat) (res : St) (hf : fX6_back_k10 mm x1 = some res) : Met l yX6_back wsX6_back ({ frames := 0, cells := 0, slots := 0, locals := 0 }) (mP D (tysX cI cZ) [.ref (A 0), .int x1, .ref (A 10)] (wX6 cI cZ A mm) sz) (mQv D (wX6 cI cZ A mm) (wX6 cI cZ A res) sz) 0 0 (va_A (wX6 cI cZ A mm) sz) := by
  refine mkM_v (cc := cX6_back) (maxL := 4) (own := RX6) (by decide +kernel) rfl rfl (Nat.le_of_ble_eq_true rfl) ?_
  intro p e s m args below meth c A0 Q S hK hG hA hR
  obtain ⟨hx, hb, hml, hown, hts⟩ := id S
  have k114 := hts (.fieldLink RX6 114 "SwitchFloorModel" "kept" "[I") (by decide +kernel)
  have iX6 : ∀ w ∈ wsX60, w ∈ wsX6_back := by decide +kernel
  have B2 : ∀ (x1 : Int32) (mm : St) (x3 : Int32), fX6_back_k10_L2 x1 mm x3 = some res → Bk p l e ({ frames := 0, cells := 0, slots := 0, locals := 0 }) s m args below meth c Q A0 D 4 0 0 (wX6 cI cZ A mm) [(0, .ref (A 0)), (1, .int x1), (2, .ref (A 10)), (3, .int x3)] 2 [] := by
    intro x1 mm x3 hf
    refine loop_ind (step := (fun k a => fX6_back_k10_S2 k x1 (a.1) (a.2))) (fun a => Bk p l e ({ frames := 0, cells := 0, slots := 0, locals := 0 }) s m args below meth c Q A0 D 4 0 0 (wX6 cI cZ A (a.1)) [(0, .ref (A 0)), (1, .int x1), (2, .ref (A 10)), (3, .int (a.2))] 2 []) ?_ _ _ hf
    clear hf
    intro k2 hk2 a hf
    obtain ⟨mm_, x3_⟩ := a
    clear mm x3
    obtain ⟨mm, e_⟩ : ∃ z, z = mm_ := ⟨_, rfl⟩
    subst e_
    obtain ⟨x3, e_⟩ : ∃ z, z = x3_ := ⟨_, rfl⟩
    subst e_
    have hf : fX6_back_k10_S2 k2 x1 mm x3 = some res := hf
    show Bk p l e ({ frames := 0, cells := 0, slots := 0, locals := 0 }) s m args below meth c Q A0 D 4 0 0 (wX6 cI cZ A mm) [(0, .ref (A 0)), (1, .int x1), (2, .ref (A 10)), (3, .int x3)] 2 []
    unfold fX6_back_k10_S2 at hf
    intro H locs hP hD hS ls hl
    refine lv_iload_n hx hb dX6_back_2 rfl (lv_at hl 3 rfl) ?_
    refine lv_aload_n hx hb dX6_back_3 rfl (lv_at hl 2 rfl) ?_
    refine va_alen (v := 30) hx hb hK hP 10 0 (gX6_10 _ _ _ _) rfl rfl dX6_back_4 ?_
    refine lv_icmp_ge (tgt := 25) hx hb dX6_back_5 (by decide) (fun c5 => ?_) (fun c5 => ?_)
    · have hf := if_t c5 hf
      exact hR _ ls H locs _ (congrArg (fun q => (wX6 cI cZ A q)) (Option.some.inj hf)) dX6_back_25 hP hD hS
    · have hf := if_f c5 hf
      refine lv_aload_n hx hb dX6_back_8 rfl (lv_at hl 2 rfl) ?_
      refine lv_iload_n hx hb dX6_back_9 rfl (lv_at hl 3 rfl) ?_
      refine lv_aload_n hx hb dX6_back_10 rfl (lv_at hl 0 rfl) ?_
      refine ld_f S iX6 hK hP 0 36 (.ref (A 34)) (gX6_0 _ _ _ _) rfl (by decide) k114 rfl rfl dX6_back_11 ?_
      refine lv_iload_n hx hb dX6_back_14 rfl (lv_at hl 1 rfl) ?_
      refine lv_iload_n hx hb dX6_back_15 rfl (lv_at hl 3 rfl) ?_
      refine lv_iadd hx hb dX6_back_16 ?_
      obtain ⟨c17, hf⟩ := ck_t hf
      refine va_iald (f := mm 36) hx hb hK hP 34 0 (gX6_34 _ _ _ _) rfl (inb_in c17) dX6_back_17 ?_
      obtain ⟨c18, hf⟩ := ck_t hf
      refine st_i hx hb hK hP hD hS 10 0 (sX6_10 _ _ _ _ _ _) (gX6_10 _ _ _ _) rfl c18 dX6_back_18 (fun H locs hP hD hS => ?_)
      refine lv_iinc (v := x3 + 1) (lv' := [(3, .int (x3 + 1)), (0, .ref (A 0)), (1, .int x1), (2, .ref (A 10))]) hx hb dX6_back_19 hl (k := 3) rfl rfl (by decide) rfl (fun ls hl => ?_)
      refine lv_goto (tgt := 2) hx hb dX6_back_22 (by decide) ?_
      exact hk2 _ hf H locs hP hD hS ls (lv_sub hl [1, 2, 3, 0] rfl)
  intro H locs hP hD hS ls hl
  have hl : lv_has ls 4 [(0, .ref (A 0)), (1, .int x1), (2, .ref (A 10))] := hl
  unfold fX6_back_k10 at hf
  refine lv_iconst (v := 0) hx hb dX6_back_0 (by decide) ?_
  refine lv_istore_n (lv' := [(3, .int 0), (0, .ref (A 0)), (1, .int x1), (2, .ref (A 10))]) hx hb dX6_back_1 rfl hl (by decide) rfl (fun ls hl => ?_)
  exact B2 _ _ _ hf H locs hP hD hS ls (lv_sub hl [1, 2, 3, 0] rfl)
set_option maxHeartbeats 4000000 in
set_option maxRecDepth 100000 in
theorem mX6_keeps_k13 (l : Launch) (D : va_G) (cI cZ : ClassId) (A : Nat → Nat)  (mm : St) (x1 : Int32) (sz : Nat) (res : St) (hf : fX6_keeps_k13 mm x1 = some res) : Met l yX6_keeps wsX6_keeps ({ frames := 0, cells := 0, slots := 0, locals := 0 }) (mP D (tysX cI cZ) [.ref (A 0), .int x1, .ref (A 13)] (wX6 cI cZ A mm) sz) (mQv D (wX6 cI cZ A mm) (wX6 cI cZ A res) sz) 0 0 (va_A (wX6 cI cZ A mm) sz) := by
  refine mkM_v (cc := cX6_keeps) (maxL := 4) (own := RX6) (by decide +kernel) rfl rfl (Nat.le_of_ble_eq_true rfl) ?_
  intro p e s m args below meth c A0 Q S hK hG hA hR
  obtain ⟨hx, hb, hml, hown, hts⟩ := id S
  have k114 := hts (.fieldLink RX6 114 "SwitchFloorModel" "kept" "[I") (by decide +kernel)
  have iX6 : ∀ w ∈ wsX60, w ∈ wsX6_keeps := by decide +kernel
  have B2 : ∀ (x1 : Int32) (mm : St) (x3 : Int32), fX6_keeps_k13_L2 x1 mm x3 = some res → Bk p l e ({ frames := 0, cells := 0, slots := 0, locals := 0 }) s m args below meth c Q A0 D 4 0 0 (wX6 cI cZ A mm) [(0, .ref (A 0)), (1, .int x1), (2, .ref (A 13)), (3, .int x3)] 2 [] := by
    intro x1 mm x3 hf
    refine loop_ind (step := (fun k a => fX6_keeps_k13_S2 k x1 (a.1) (a.2))) (fun a => Bk p l e ({ frames := 0, cells := 0, slots := 0, locals := 0 }) s m args below meth c Q A0 D 4 0 0 (wX6 cI cZ A (a.1)) [(0, .ref (A 0)), (1, .int x1), (2, .ref (A 13)), (3, .int (a.2))] 2 []) ?_ _ _ hf
    clear hf
    intro k2 hk2 a hf
    obtain ⟨mm_, x3_⟩ := a
    clear mm x3
    obtain ⟨mm, e_⟩ : ∃ z, z = mm_ := ⟨_, rfl⟩
    subst e_
    obtain ⟨x3, e_⟩ : ∃ z, z = x3_ := ⟨_, rfl⟩
    subst e_
    have hf : fX6_keeps_k13_S2 k2 x1 mm x3 = some res := hf
    show Bk p l e ({ frames := 0, cells := 0, slots := 0, locals := 0 }) s m args below meth c Q A0 D 4 0 0 (wX6 cI cZ A mm) [(0, .ref (A 0)), (1, .int x1), (2, .ref (A 13)), (3, .int x3)] 2 []
    unfold fX6_keeps_k13_S2 at hf
    intro H locs hP hD hS ls hl
    refine lv_iload_n hx hb dX6_keeps_2 rfl (lv_at hl 3 rfl) ?_
    refine lv_aload_n hx hb dX6_keeps_3 rfl (lv_at hl 2 rfl) ?_
    refine va_alen (v := 30) hx hb hK hP 13 0 (gX6_13 _ _ _ _) rfl rfl dX6_keeps_4 ?_
    refine lv_icmp_ge (tgt := 25) hx hb dX6_keeps_5 (by decide) (fun c5 => ?_) (fun c5 => ?_)
    · have hf := if_t c5 hf
      exact hR _ ls H locs _ (congrArg (fun q => (wX6 cI cZ A q)) (Option.some.inj hf)) dX6_keeps_25 hP hD hS
    · have hf := if_f c5 hf
      refine lv_aload_n hx hb dX6_keeps_8 rfl (lv_at hl 0 rfl) ?_
      refine ld_f S iX6 hK hP 0 36 (.ref (A 34)) (gX6_0 _ _ _ _) rfl (by decide) k114 rfl rfl dX6_keeps_9 ?_
      refine lv_iload_n hx hb dX6_keeps_12 rfl (lv_at hl 1 rfl) ?_
      refine lv_iload_n hx hb dX6_keeps_13 rfl (lv_at hl 3 rfl) ?_
      refine lv_iadd hx hb dX6_keeps_14 ?_
      refine lv_aload_n hx hb dX6_keeps_15 rfl (lv_at hl 2 rfl) ?_
      refine lv_iload_n hx hb dX6_keeps_16 rfl (lv_at hl 3 rfl) ?_
      obtain ⟨c17, hf⟩ := ck_t hf
      refine va_iald (f := mm 14) hx hb hK hP 13 0 (gX6_13 _ _ _ _) rfl (inb_in c17) dX6_keeps_17 ?_
      obtain ⟨c18, hf⟩ := ck_t hf
      refine st_i hx hb hK hP hD hS 34 0 (sX6_34 _ _ _ _ _ _) (gX6_34 _ _ _ _) rfl c18 dX6_keeps_18 (fun H locs hP hD hS => ?_)
      refine lv_iinc (v := x3 + 1) (lv' := [(3, .int (x3 + 1)), (0, .ref (A 0)), (1, .int x1), (2, .ref (A 13))]) hx hb dX6_keeps_19 hl (k := 3) rfl rfl (by decide) rfl (fun ls hl => ?_)
      refine lv_goto (tgt := 2) hx hb dX6_keeps_22 (by decide) ?_
      exact hk2 _ hf H locs hP hD hS ls (lv_sub hl [1, 2, 3, 0] rfl)
  intro H locs hP hD hS ls hl
  have hl : lv_has ls 4 [(0, .ref (A 0)), (1, .int x1), (2, .ref (A 13))] := hl
  unfold fX6_keeps_k13 at hf
  refine lv_iconst (v := 0) hx hb dX6_keeps_0 (by decide) ?_
  refine lv_istore_n (lv' := [(3, .int 0), (0, .ref (A 0)), (1, .int x1), (2, .ref (A 13))]) hx hb dX6_keeps_1 rfl hl (by decide) rfl (fun ls hl => ?_)
  exact B2 _ _ _ hf H locs hP hD hS ls (lv_sub hl [1, 2, 3, 0] rfl)
set_option maxHeartbeats 4000000 in
set_option maxRecDepth 100000 in
theorem mX6_back_k13 (l : Launch) (D : va_G) (cI cZ : ClassId) (A : Nat → Nat)  (mm : St) (x1 : Int32) (sz : Nat) (res : St) (hf : fX6_back_k13 mm x1 = some res) : Met l yX6_back wsX6_back ({ frames := 0, cells := 0, slots := 0, locals := 0 }) (mP D (tysX cI cZ) [.ref (A 0), .int x1, .ref (A 13)] (wX6 cI cZ A mm) sz) (mQv D (wX6 cI cZ A mm) (wX6 cI cZ A res) sz) 0 0 (va_A (wX6 cI cZ A mm) sz) := by
  refine mkM_v (cc := cX6_back) (maxL := 4) (own := RX6) (by decide +kernel) rfl rfl (Nat.le_of_ble_eq_true rfl) ?_
  intro p e s m args below meth c A0 Q S hK hG hA hR
  obtain ⟨hx, hb, hml, hown, hts⟩ := id S
  have k114 := hts (.fieldLink RX6 114 "SwitchFloorModel" "kept" "[I") (by decide +kernel)
  have iX6 : ∀ w ∈ wsX60, w ∈ wsX6_back := by decide +kernel
  have B2 : ∀ (x1 : Int32) (mm : St) (x3 : Int32), fX6_back_k13_L2 x1 mm x3 = some res → Bk p l e ({ frames := 0, cells := 0, slots := 0, locals := 0 }) s m args below meth c Q A0 D 4 0 0 (wX6 cI cZ A mm) [(0, .ref (A 0)), (1, .int x1), (2, .ref (A 13)), (3, .int x3)] 2 [] := by
    intro x1 mm x3 hf
    refine loop_ind (step := (fun k a => fX6_back_k13_S2 k x1 (a.1) (a.2))) (fun a => Bk p l e ({ frames := 0, cells := 0, slots := 0, locals := 0 }) s m args below meth c Q A0 D 4 0 0 (wX6 cI cZ A (a.1)) [(0, .ref (A 0)), (1, .int x1), (2, .ref (A 13)), (3, .int (a.2))] 2 []) ?_ _ _ hf
    clear hf
    intro k2 hk2 a hf
    obtain ⟨mm_, x3_⟩ := a
    clear mm x3
    obtain ⟨mm, e_⟩ : ∃ z, z = mm_ := ⟨_, rfl⟩
    subst e_
    obtain ⟨x3, e_⟩ : ∃ z, z = x3_ := ⟨_, rfl⟩
    subst e_
    have hf : fX6_back_k13_S2 k2 x1 mm x3 = some res := hf
    show Bk p l e ({ frames := 0, cells := 0, slots := 0, locals := 0 }) s m args below meth c Q A0 D 4 0 0 (wX6 cI cZ A mm) [(0, .ref (A 0)), (1, .int x1), (2, .ref (A 13)), (3, .int x3)] 2 []
    unfold fX6_back_k13_S2 at hf
    intro H locs hP hD hS ls hl
    refine lv_iload_n hx hb dX6_back_2 rfl (lv_at hl 3 rfl) ?_
    refine lv_aload_n hx hb dX6_back_3 rfl (lv_at hl 2 rfl) ?_
    refine va_alen (v := 30) hx hb hK hP 13 0 (gX6_13 _ _ _ _) rfl rfl dX6_back_4 ?_
    refine lv_icmp_ge (tgt := 25) hx hb dX6_back_5 (by decide) (fun c5 => ?_) (fun c5 => ?_)
    · have hf := if_t c5 hf
      exact hR _ ls H locs _ (congrArg (fun q => (wX6 cI cZ A q)) (Option.some.inj hf)) dX6_back_25 hP hD hS
    · have hf := if_f c5 hf
      refine lv_aload_n hx hb dX6_back_8 rfl (lv_at hl 2 rfl) ?_
      refine lv_iload_n hx hb dX6_back_9 rfl (lv_at hl 3 rfl) ?_
      refine lv_aload_n hx hb dX6_back_10 rfl (lv_at hl 0 rfl) ?_
      refine ld_f S iX6 hK hP 0 36 (.ref (A 34)) (gX6_0 _ _ _ _) rfl (by decide) k114 rfl rfl dX6_back_11 ?_
      refine lv_iload_n hx hb dX6_back_14 rfl (lv_at hl 1 rfl) ?_
      refine lv_iload_n hx hb dX6_back_15 rfl (lv_at hl 3 rfl) ?_
      refine lv_iadd hx hb dX6_back_16 ?_
      obtain ⟨c17, hf⟩ := ck_t hf
      refine va_iald (f := mm 36) hx hb hK hP 34 0 (gX6_34 _ _ _ _) rfl (inb_in c17) dX6_back_17 ?_
      obtain ⟨c18, hf⟩ := ck_t hf
      refine st_i hx hb hK hP hD hS 13 0 (sX6_13 _ _ _ _ _ _) (gX6_13 _ _ _ _) rfl c18 dX6_back_18 (fun H locs hP hD hS => ?_)
      refine lv_iinc (v := x3 + 1) (lv' := [(3, .int (x3 + 1)), (0, .ref (A 0)), (1, .int x1), (2, .ref (A 13))]) hx hb dX6_back_19 hl (k := 3) rfl rfl (by decide) rfl (fun ls hl => ?_)
      refine lv_goto (tgt := 2) hx hb dX6_back_22 (by decide) ?_
      exact hk2 _ hf H locs hP hD hS ls (lv_sub hl [1, 2, 3, 0] rfl)
  intro H locs hP hD hS ls hl
  have hl : lv_has ls 4 [(0, .ref (A 0)), (1, .int x1), (2, .ref (A 13))] := hl
  unfold fX6_back_k13 at hf
  refine lv_iconst (v := 0) hx hb dX6_back_0 (by decide) ?_
  refine lv_istore_n (lv' := [(3, .int 0), (0, .ref (A 0)), (1, .int x1), (2, .ref (A 13))]) hx hb dX6_back_1 rfl hl (by decide) rfl (fun ls hl => ?_)
  exact B2 _ _ _ hf H locs hP hD hS ls (lv_sub hl [1, 2, 3, 0] rfl)
set_option maxHeartbeats 4000000 in
set_option maxRecDepth 100000 in
theorem mX6_keeps_k12 (l : Launch) (D : va_G) (cI cZ : ClassId) (A : Nat → Nat)  (mm : St) (x1 : Int32) (sz : Nat) (res : St) (hf : fX6_keeps_k12 mm x1 = some res) : Met l yX6_keeps wsX6_keeps ({ frames := 0, cells := 0, slots := 0, locals := 0 }) (mP D (tysX cI cZ) [.ref (A 0), .int x1, .ref (A 12)] (wX6 cI cZ A mm) sz) (mQv D (wX6 cI cZ A mm) (wX6 cI cZ A res) sz) 0 0 (va_A (wX6 cI cZ A mm) sz) := by
  refine mkM_v (cc := cX6_keeps) (maxL := 4) (own := RX6) (by decide +kernel) rfl rfl (Nat.le_of_ble_eq_true rfl) ?_
  intro p e s m args below meth c A0 Q S hK hG hA hR
  obtain ⟨hx, hb, hml, hown, hts⟩ := id S
  have k114 := hts (.fieldLink RX6 114 "SwitchFloorModel" "kept" "[I") (by decide +kernel)
  have iX6 : ∀ w ∈ wsX60, w ∈ wsX6_keeps := by decide +kernel
  have B2 : ∀ (x1 : Int32) (mm : St) (x3 : Int32), fX6_keeps_k12_L2 x1 mm x3 = some res → Bk p l e ({ frames := 0, cells := 0, slots := 0, locals := 0 }) s m args below meth c Q A0 D 4 0 0 (wX6 cI cZ A mm) [(0, .ref (A 0)), (1, .int x1), (2, .ref (A 12)), (3, .int x3)] 2 [] := by
    intro x1 mm x3 hf
    refine loop_ind (step := (fun k a => fX6_keeps_k12_S2 k x1 (a.1) (a.2))) (fun a => Bk p l e ({ frames := 0, cells := 0, slots := 0, locals := 0 }) s m args below meth c Q A0 D 4 0 0 (wX6 cI cZ A (a.1)) [(0, .ref (A 0)), (1, .int x1), (2, .ref (A 12)), (3, .int (a.2))] 2 []) ?_ _ _ hf
    clear hf
    intro k2 hk2 a hf
    obtain ⟨mm_, x3_⟩ := a
    clear mm x3
    obtain ⟨mm, e_⟩ : ∃ z, z = mm_ := ⟨_, rfl⟩
    subst e_
    obtain ⟨x3, e_⟩ : ∃ z, z = x3_ := ⟨_, rfl⟩
    subst e_
    have hf : fX6_keeps_k12_S2 k2 x1 mm x3 = some res := hf
    show Bk p l e ({ frames := 0, cells := 0, slots := 0, locals := 0 }) s m args below meth c Q A0 D 4 0 0 (wX6 cI cZ A mm) [(0, .ref (A 0)), (1, .int x1), (2, .ref (A 12)), (3, .int x3)] 2 []
    unfold fX6_keeps_k12_S2 at hf
    intro H locs hP hD hS ls hl
    refine lv_iload_n hx hb dX6_keeps_2 rfl (lv_at hl 3 rfl) ?_
    refine lv_aload_n hx hb dX6_keeps_3 rfl (lv_at hl 2 rfl) ?_
    refine va_alen (v := 30) hx hb hK hP 12 0 (gX6_12 _ _ _ _) rfl rfl dX6_keeps_4 ?_
    refine lv_icmp_ge (tgt := 25) hx hb dX6_keeps_5 (by decide) (fun c5 => ?_) (fun c5 => ?_)
    · have hf := if_t c5 hf
      exact hR _ ls H locs _ (congrArg (fun q => (wX6 cI cZ A q)) (Option.some.inj hf)) dX6_keeps_25 hP hD hS
    · have hf := if_f c5 hf
      refine lv_aload_n hx hb dX6_keeps_8 rfl (lv_at hl 0 rfl) ?_
      refine ld_f S iX6 hK hP 0 36 (.ref (A 34)) (gX6_0 _ _ _ _) rfl (by decide) k114 rfl rfl dX6_keeps_9 ?_
      refine lv_iload_n hx hb dX6_keeps_12 rfl (lv_at hl 1 rfl) ?_
      refine lv_iload_n hx hb dX6_keeps_13 rfl (lv_at hl 3 rfl) ?_
      refine lv_iadd hx hb dX6_keeps_14 ?_
      refine lv_aload_n hx hb dX6_keeps_15 rfl (lv_at hl 2 rfl) ?_
      refine lv_iload_n hx hb dX6_keeps_16 rfl (lv_at hl 3 rfl) ?_
      obtain ⟨c17, hf⟩ := ck_t hf
      refine va_iald (f := mm 13) hx hb hK hP 12 0 (gX6_12 _ _ _ _) rfl (inb_in c17) dX6_keeps_17 ?_
      obtain ⟨c18, hf⟩ := ck_t hf
      refine st_i hx hb hK hP hD hS 34 0 (sX6_34 _ _ _ _ _ _) (gX6_34 _ _ _ _) rfl c18 dX6_keeps_18 (fun H locs hP hD hS => ?_)
      refine lv_iinc (v := x3 + 1) (lv' := [(3, .int (x3 + 1)), (0, .ref (A 0)), (1, .int x1), (2, .ref (A 12))]) hx hb dX6_keeps_19 hl (k := 3) rfl rfl (by decide) rfl (fun ls hl => ?_)
      refine lv_goto (tgt := 2) hx hb dX6_keeps_22 (by decide) ?_
      exact hk2 _ hf H locs hP hD hS ls (lv_sub hl [1, 2, 3, 0] rfl)
  intro H locs hP hD hS ls hl
  have hl : lv_has ls 4 [(0, .ref (A 0)), (1, .int x1), (2, .ref (A 12))] := hl
  unfold fX6_keeps_k12 at hf
  refine lv_iconst (v := 0) hx hb dX6_keeps_0 (by decide) ?_
  refine lv_istore_n (lv' := [(3, .int 0), (0, .ref (A 0)), (1, .int x1), (2, .ref (A 12))]) hx hb dX6_keeps_1 rfl hl (by decide) rfl (fun ls hl => ?_)
  exact B2 _ _ _ hf H locs hP hD hS ls (lv_sub hl [1, 2, 3, 0] rfl)
set_option maxHeartbeats 4000000 in
set_option maxRecDepth 100000 in
theorem mX6_back_k12 (l : Launch) (D : va_G) (cI cZ : ClassId) (A : Nat → Nat)  (mm : St) (x1 : Int32) (sz : Nat) (res : St) (hf : fX6_back_k12 mm x1 = some res) : Met l yX6_back wsX6_back ({ frames := 0, cells := 0, slots := 0, locals := 0 }) (mP D (tysX cI cZ) [.ref (A 0), .int x1, .ref (A 12)] (wX6 cI cZ A mm) sz) (mQv D (wX6 cI cZ A mm) (wX6 cI cZ A res) sz) 0 0 (va_A (wX6 cI cZ A mm) sz) := by
  refine mkM_v (cc := cX6_back) (maxL := 4) (own := RX6) (by decide +kernel) rfl rfl (Nat.le_of_ble_eq_true rfl) ?_
  intro p e s m args below meth c A0 Q S hK hG hA hR
  obtain ⟨hx, hb, hml, hown, hts⟩ := id S
  have k114 := hts (.fieldLink RX6 114 "SwitchFloorModel" "kept" "[I") (by decide +kernel)
  have iX6 : ∀ w ∈ wsX60, w ∈ wsX6_back := by decide +kernel
  have B2 : ∀ (x1 : Int32) (mm : St) (x3 : Int32), fX6_back_k12_L2 x1 mm x3 = some res → Bk p l e ({ frames := 0, cells := 0, slots := 0, locals := 0 }) s m args below meth c Q A0 D 4 0 0 (wX6 cI cZ A mm) [(0, .ref (A 0)), (1, .int x1), (2, .ref (A 12)), (3, .int x3)] 2 [] := by
    intro x1 mm x3 hf
    refine loop_ind (step := (fun k a => fX6_back_k12_S2 k x1 (a.1) (a.2))) (fun a => Bk p l e ({ frames := 0, cells := 0, slots := 0, locals := 0 }) s m args below meth c Q A0 D 4 0 0 (wX6 cI cZ A (a.1)) [(0, .ref (A 0)), (1, .int x1), (2, .ref (A 12)), (3, .int (a.2))] 2 []) ?_ _ _ hf
    clear hf
    intro k2 hk2 a hf
    obtain ⟨mm_, x3_⟩ := a
    clear mm x3
    obtain ⟨mm, e_⟩ : ∃ z, z = mm_ := ⟨_, rfl⟩
    subst e_
    obtain ⟨x3, e_⟩ : ∃ z, z = x3_ := ⟨_, rfl⟩
    subst e_
    have hf : fX6_back_k12_S2 k2 x1 mm x3 = some res := hf
    show Bk p l e ({ frames := 0, cells := 0, slots := 0, locals := 0 }) s m args below meth c Q A0 D 4 0 0 (wX6 cI cZ A mm) [(0, .ref (A 0)), (1, .int x1), (2, .ref (A 12)), (3, .int x3)] 2 []
    unfold fX6_back_k12_S2 at hf
    intro H locs hP hD hS ls hl
    refine lv_iload_n hx hb dX6_back_2 rfl (lv_at hl 3 rfl) ?_
    refine lv_aload_n hx hb dX6_back_3 rfl (lv_at hl 2 rfl) ?_
    refine va_alen (v := 30) hx hb hK hP 12 0 (gX6_12 _ _ _ _) rfl rfl dX6_back_4 ?_
    refine lv_icmp_ge (tgt := 25) hx hb dX6_back_5 (by decide) (fun c5 => ?_) (fun c5 => ?_)
    · have hf := if_t c5 hf
      exact hR _ ls H locs _ (congrArg (fun q => (wX6 cI cZ A q)) (Option.some.inj hf)) dX6_back_25 hP hD hS
    · have hf := if_f c5 hf
      refine lv_aload_n hx hb dX6_back_8 rfl (lv_at hl 2 rfl) ?_
      refine lv_iload_n hx hb dX6_back_9 rfl (lv_at hl 3 rfl) ?_
      refine lv_aload_n hx hb dX6_back_10 rfl (lv_at hl 0 rfl) ?_
      refine ld_f S iX6 hK hP 0 36 (.ref (A 34)) (gX6_0 _ _ _ _) rfl (by decide) k114 rfl rfl dX6_back_11 ?_
      refine lv_iload_n hx hb dX6_back_14 rfl (lv_at hl 1 rfl) ?_
      refine lv_iload_n hx hb dX6_back_15 rfl (lv_at hl 3 rfl) ?_
      refine lv_iadd hx hb dX6_back_16 ?_
      obtain ⟨c17, hf⟩ := ck_t hf
      refine va_iald (f := mm 36) hx hb hK hP 34 0 (gX6_34 _ _ _ _) rfl (inb_in c17) dX6_back_17 ?_
      obtain ⟨c18, hf⟩ := ck_t hf
      refine st_i hx hb hK hP hD hS 12 0 (sX6_12 _ _ _ _ _ _) (gX6_12 _ _ _ _) rfl c18 dX6_back_18 (fun H locs hP hD hS => ?_)
      refine lv_iinc (v := x3 + 1) (lv' := [(3, .int (x3 + 1)), (0, .ref (A 0)), (1, .int x1), (2, .ref (A 12))]) hx hb dX6_back_19 hl (k := 3) rfl rfl (by decide) rfl (fun ls hl => ?_)
      refine lv_goto (tgt := 2) hx hb dX6_back_22 (by decide) ?_
      exact hk2 _ hf H locs hP hD hS ls (lv_sub hl [1, 2, 3, 0] rfl)
  intro H locs hP hD hS ls hl
  have hl : lv_has ls 4 [(0, .ref (A 0)), (1, .int x1), (2, .ref (A 12))] := hl
  unfold fX6_back_k12 at hf
  refine lv_iconst (v := 0) hx hb dX6_back_0 (by decide) ?_
  refine lv_istore_n (lv' := [(3, .int 0), (0, .ref (A 0)), (1, .int x1), (2, .ref (A 12))]) hx hb dX6_back_1 rfl hl (by decide) rfl (fun ls hl => ?_)
  exact B2 _ _ _ hf H locs hP hD hS ls (lv_sub hl [1, 2, 3, 0] rfl)
set_option maxHeartbeats 4000000 in
set_option maxRecDepth 100000 in
theorem mX6_keeps_k18 (l : Launch) (D : va_G) (cI cZ : ClassId) (A : Nat → Nat)  (mm : St) (x1 : Int32) (sz : Nat) (res : St) (hf : fX6_keeps_k18 mm x1 = some res) : Met l yX6_keeps wsX6_keeps ({ frames := 0, cells := 0, slots := 0, locals := 0 }) (mP D (tysX cI cZ) [.ref (A 0), .int x1, .ref (A 18)] (wX6 cI cZ A mm) sz) (mQv D (wX6 cI cZ A mm) (wX6 cI cZ A res) sz) 0 0 (va_A (wX6 cI cZ A mm) sz) := by
  refine mkM_v (cc := cX6_keeps) (maxL := 4) (own := RX6) (by decide +kernel) rfl rfl (Nat.le_of_ble_eq_true rfl) ?_
  intro p e s m args below meth c A0 Q S hK hG hA hR
  obtain ⟨hx, hb, hml, hown, hts⟩ := id S
  have k114 := hts (.fieldLink RX6 114 "SwitchFloorModel" "kept" "[I") (by decide +kernel)
  have iX6 : ∀ w ∈ wsX60, w ∈ wsX6_keeps := by decide +kernel
  have B2 : ∀ (x1 : Int32) (mm : St) (x3 : Int32), fX6_keeps_k18_L2 x1 mm x3 = some res → Bk p l e ({ frames := 0, cells := 0, slots := 0, locals := 0 }) s m args below meth c Q A0 D 4 0 0 (wX6 cI cZ A mm) [(0, .ref (A 0)), (1, .int x1), (2, .ref (A 18)), (3, .int x3)] 2 [] := by
    intro x1 mm x3 hf
    refine loop_ind (step := (fun k a => fX6_keeps_k18_S2 k x1 (a.1) (a.2))) (fun a => Bk p l e ({ frames := 0, cells := 0, slots := 0, locals := 0 }) s m args below meth c Q A0 D 4 0 0 (wX6 cI cZ A (a.1)) [(0, .ref (A 0)), (1, .int x1), (2, .ref (A 18)), (3, .int (a.2))] 2 []) ?_ _ _ hf
    clear hf
    intro k2 hk2 a hf
    obtain ⟨mm_, x3_⟩ := a
    clear mm x3
    obtain ⟨mm, e_⟩ : ∃ z, z = mm_ := ⟨_, rfl⟩
    subst e_
    obtain ⟨x3, e_⟩ : ∃ z, z = x3_ := ⟨_, rfl⟩
    subst e_
    have hf : fX6_keeps_k18_S2 k2 x1 mm x3 = some res := hf
    show Bk p l e ({ frames := 0, cells := 0, slots := 0, locals := 0 }) s m args below meth c Q A0 D 4 0 0 (wX6 cI cZ A mm) [(0, .ref (A 0)), (1, .int x1), (2, .ref (A 18)), (3, .int x3)] 2 []
    unfold fX6_keeps_k18_S2 at hf
    intro H locs hP hD hS ls hl
    refine lv_iload_n hx hb dX6_keeps_2 rfl (lv_at hl 3 rfl) ?_
    refine lv_aload_n hx hb dX6_keeps_3 rfl (lv_at hl 2 rfl) ?_
    refine va_alen (v := 6) hx hb hK hP 18 0 (gX6_18 _ _ _ _) rfl rfl dX6_keeps_4 ?_
    refine lv_icmp_ge (tgt := 25) hx hb dX6_keeps_5 (by decide) (fun c5 => ?_) (fun c5 => ?_)
    · have hf := if_t c5 hf
      exact hR _ ls H locs _ (congrArg (fun q => (wX6 cI cZ A q)) (Option.some.inj hf)) dX6_keeps_25 hP hD hS
    · have hf := if_f c5 hf
      refine lv_aload_n hx hb dX6_keeps_8 rfl (lv_at hl 0 rfl) ?_
      refine ld_f S iX6 hK hP 0 36 (.ref (A 34)) (gX6_0 _ _ _ _) rfl (by decide) k114 rfl rfl dX6_keeps_9 ?_
      refine lv_iload_n hx hb dX6_keeps_12 rfl (lv_at hl 1 rfl) ?_
      refine lv_iload_n hx hb dX6_keeps_13 rfl (lv_at hl 3 rfl) ?_
      refine lv_iadd hx hb dX6_keeps_14 ?_
      refine lv_aload_n hx hb dX6_keeps_15 rfl (lv_at hl 2 rfl) ?_
      refine lv_iload_n hx hb dX6_keeps_16 rfl (lv_at hl 3 rfl) ?_
      obtain ⟨c17, hf⟩ := ck_t hf
      refine va_iald (f := mm 19) hx hb hK hP 18 0 (gX6_18 _ _ _ _) rfl (inb_in c17) dX6_keeps_17 ?_
      obtain ⟨c18, hf⟩ := ck_t hf
      refine st_i hx hb hK hP hD hS 34 0 (sX6_34 _ _ _ _ _ _) (gX6_34 _ _ _ _) rfl c18 dX6_keeps_18 (fun H locs hP hD hS => ?_)
      refine lv_iinc (v := x3 + 1) (lv' := [(3, .int (x3 + 1)), (0, .ref (A 0)), (1, .int x1), (2, .ref (A 18))]) hx hb dX6_keeps_19 hl (k := 3) rfl rfl (by decide) rfl (fun ls hl => ?_)
      refine lv_goto (tgt := 2) hx hb dX6_keeps_22 (by decide) ?_
      exact hk2 _ hf H locs hP hD hS ls (lv_sub hl [1, 2, 3, 0] rfl)
  intro H locs hP hD hS ls hl
  have hl : lv_has ls 4 [(0, .ref (A 0)), (1, .int x1), (2, .ref (A 18))] := hl
  unfold fX6_keeps_k18 at hf
  refine lv_iconst (v := 0) hx hb dX6_keeps_0 (by decide) ?_
  refine lv_istore_n (lv' := [(3, .int 0), (0, .ref (A 0)), (1, .int x1), (2, .ref (A 18))]) hx hb dX6_keeps_1 rfl hl (by decide) rfl (fun ls hl => ?_)
  exact B2 _ _ _ hf H locs hP hD hS ls (lv_sub hl [1, 2, 3, 0] rfl)
set_option maxHeartbeats 4000000 in
set_option maxRecDepth 100000 in
theorem mX6_back_k18 (l : Launch) (D : va_G) (cI cZ : ClassId) (A : Nat → Nat)  (mm : St) (x1 : Int32) (sz : Nat) (res : St) (hf : fX6_back_k18 mm x1 = some res) : Met l yX6_back wsX6_back ({ frames := 0, cells := 0, slots := 0, locals := 0 }) (mP D (tysX cI cZ) [.ref (A 0), .int x1, .ref (A 18)] (wX6 cI cZ A mm) sz) (mQv D (wX6 cI cZ A mm) (wX6 cI cZ A res) sz) 0 0 (va_A (wX6 cI cZ A mm) sz) := by
  refine mkM_v (cc := cX6_back) (maxL := 4) (own := RX6) (by decide +kernel) rfl rfl (Nat.le_of_ble_eq_true rfl) ?_
  intro p e s m args below meth c A0 Q S hK hG hA hR
  obtain ⟨hx, hb, hml, hown, hts⟩ := id S
  have k114 := hts (.fieldLink RX6 114 "SwitchFloorModel" "kept" "[I") (by decide +kernel)
  have iX6 : ∀ w ∈ wsX60, w ∈ wsX6_back := by decide +kernel
  have B2 : ∀ (x1 : Int32) (mm : St) (x3 : Int32), fX6_back_k18_L2 x1 mm x3 = some res → Bk p l e ({ frames := 0, cells := 0, slots := 0, locals := 0 }) s m args below meth c Q A0 D 4 0 0 (wX6 cI cZ A mm) [(0, .ref (A 0)), (1, .int x1), (2, .ref (A 18)), (3, .int x3)] 2 [] := by
    intro x1 mm x3 hf
    refine loop_ind (step := (fun k a => fX6_back_k18_S2 k x1 (a.1) (a.2))) (fun a => Bk p l e ({ frames := 0, cells := 0, slots := 0, locals := 0 }) s m args below meth c Q A0 D 4 0 0 (wX6 cI cZ A (a.1)) [(0, .ref (A 0)), (1, .int x1), (2, .ref (A 18)), (3, .int (a.2))] 2 []) ?_ _ _ hf
    clear hf
    intro k2 hk2 a hf
    obtain ⟨mm_, x3_⟩ := a
    clear mm x3
    obtain ⟨mm, e_⟩ : ∃ z, z = mm_ := ⟨_, rfl⟩
    subst e_
    obtain ⟨x3, e_⟩ : ∃ z, z = x3_ := ⟨_, rfl⟩
    subst e_
    have hf : fX6_back_k18_S2 k2 x1 mm x3 = some res := hf
    show Bk p l e ({ frames := 0, cells := 0, slots := 0, locals := 0 }) s m args below meth c Q A0 D 4 0 0 (wX6 cI cZ A mm) [(0, .ref (A 0)), (1, .int x1), (2, .ref (A 18)), (3, .int x3)] 2 []
    unfold fX6_back_k18_S2 at hf
    intro H locs hP hD hS ls hl
    refine lv_iload_n hx hb dX6_back_2 rfl (lv_at hl 3 rfl) ?_
    refine lv_aload_n hx hb dX6_back_3 rfl (lv_at hl 2 rfl) ?_
    refine va_alen (v := 6) hx hb hK hP 18 0 (gX6_18 _ _ _ _) rfl rfl dX6_back_4 ?_
    refine lv_icmp_ge (tgt := 25) hx hb dX6_back_5 (by decide) (fun c5 => ?_) (fun c5 => ?_)
    · have hf := if_t c5 hf
      exact hR _ ls H locs _ (congrArg (fun q => (wX6 cI cZ A q)) (Option.some.inj hf)) dX6_back_25 hP hD hS
    · have hf := if_f c5 hf
      refine lv_aload_n hx hb dX6_back_8 rfl (lv_at hl 2 rfl) ?_
      refine lv_iload_n hx hb dX6_back_9 rfl (lv_at hl 3 rfl) ?_
      refine lv_aload_n hx hb dX6_back_10 rfl (lv_at hl 0 rfl) ?_
      refine ld_f S iX6 hK hP 0 36 (.ref (A 34)) (gX6_0 _ _ _ _) rfl (by decide) k114 rfl rfl dX6_back_11 ?_
      refine lv_iload_n hx hb dX6_back_14 rfl (lv_at hl 1 rfl) ?_
      refine lv_iload_n hx hb dX6_back_15 rfl (lv_at hl 3 rfl) ?_
      refine lv_iadd hx hb dX6_back_16 ?_
      obtain ⟨c17, hf⟩ := ck_t hf
      refine va_iald (f := mm 36) hx hb hK hP 34 0 (gX6_34 _ _ _ _) rfl (inb_in c17) dX6_back_17 ?_
      obtain ⟨c18, hf⟩ := ck_t hf
      refine st_i hx hb hK hP hD hS 18 0 (sX6_18 _ _ _ _ _ _) (gX6_18 _ _ _ _) rfl c18 dX6_back_18 (fun H locs hP hD hS => ?_)
      refine lv_iinc (v := x3 + 1) (lv' := [(3, .int (x3 + 1)), (0, .ref (A 0)), (1, .int x1), (2, .ref (A 18))]) hx hb dX6_back_19 hl (k := 3) rfl rfl (by decide) rfl (fun ls hl => ?_)
      refine lv_goto (tgt := 2) hx hb dX6_back_22 (by decide) ?_
      exact hk2 _ hf H locs hP hD hS ls (lv_sub hl [1, 2, 3, 0] rfl)
  intro H locs hP hD hS ls hl
  have hl : lv_has ls 4 [(0, .ref (A 0)), (1, .int x1), (2, .ref (A 18))] := hl
  unfold fX6_back_k18 at hf
  refine lv_iconst (v := 0) hx hb dX6_back_0 (by decide) ?_
  refine lv_istore_n (lv' := [(3, .int 0), (0, .ref (A 0)), (1, .int x1), (2, .ref (A 18))]) hx hb dX6_back_1 rfl hl (by decide) rfl (fun ls hl => ?_)
  exact B2 _ _ _ hf H locs hP hD hS ls (lv_sub hl [1, 2, 3, 0] rfl)
set_option maxHeartbeats 4000000 in
set_option maxRecDepth 100000 in
theorem mX6_keeps_k17 (l : Launch) (D : va_G) (cI cZ : ClassId) (A : Nat → Nat)  (mm : St) (x1 : Int32) (sz : Nat) (res : St) (hf : fX6_keeps_k17 mm x1 = some res) : Met l yX6_keeps wsX6_keeps ({ frames := 0, cells := 0, slots := 0, locals := 0 }) (mP D (tysX cI cZ) [.ref (A 0), .int x1, .ref (A 17)] (wX6 cI cZ A mm) sz) (mQv D (wX6 cI cZ A mm) (wX6 cI cZ A res) sz) 0 0 (va_A (wX6 cI cZ A mm) sz) := by
  refine mkM_v (cc := cX6_keeps) (maxL := 4) (own := RX6) (by decide +kernel) rfl rfl (Nat.le_of_ble_eq_true rfl) ?_
  intro p e s m args below meth c A0 Q S hK hG hA hR
  obtain ⟨hx, hb, hml, hown, hts⟩ := id S
  have k114 := hts (.fieldLink RX6 114 "SwitchFloorModel" "kept" "[I") (by decide +kernel)
  have iX6 : ∀ w ∈ wsX60, w ∈ wsX6_keeps := by decide +kernel
  have B2 : ∀ (x1 : Int32) (mm : St) (x3 : Int32), fX6_keeps_k17_L2 x1 mm x3 = some res → Bk p l e ({ frames := 0, cells := 0, slots := 0, locals := 0 }) s m args below meth c Q A0 D 4 0 0 (wX6 cI cZ A mm) [(0, .ref (A 0)), (1, .int x1), (2, .ref (A 17)), (3, .int x3)] 2 [] := by
    intro x1 mm x3 hf
    refine loop_ind (step := (fun k a => fX6_keeps_k17_S2 k x1 (a.1) (a.2))) (fun a => Bk p l e ({ frames := 0, cells := 0, slots := 0, locals := 0 }) s m args below meth c Q A0 D 4 0 0 (wX6 cI cZ A (a.1)) [(0, .ref (A 0)), (1, .int x1), (2, .ref (A 17)), (3, .int (a.2))] 2 []) ?_ _ _ hf
    clear hf
    intro k2 hk2 a hf
    obtain ⟨mm_, x3_⟩ := a
    clear mm x3
    obtain ⟨mm, e_⟩ : ∃ z, z = mm_ := ⟨_, rfl⟩
    subst e_
    obtain ⟨x3, e_⟩ : ∃ z, z = x3_ := ⟨_, rfl⟩
    subst e_
    have hf : fX6_keeps_k17_S2 k2 x1 mm x3 = some res := hf
    show Bk p l e ({ frames := 0, cells := 0, slots := 0, locals := 0 }) s m args below meth c Q A0 D 4 0 0 (wX6 cI cZ A mm) [(0, .ref (A 0)), (1, .int x1), (2, .ref (A 17)), (3, .int x3)] 2 []
    unfold fX6_keeps_k17_S2 at hf
    intro H locs hP hD hS ls hl
    refine lv_iload_n hx hb dX6_keeps_2 rfl (lv_at hl 3 rfl) ?_
    refine lv_aload_n hx hb dX6_keeps_3 rfl (lv_at hl 2 rfl) ?_
    refine va_alen (v := 6) hx hb hK hP 17 0 (gX6_17 _ _ _ _) rfl rfl dX6_keeps_4 ?_
    refine lv_icmp_ge (tgt := 25) hx hb dX6_keeps_5 (by decide) (fun c5 => ?_) (fun c5 => ?_)
    · have hf := if_t c5 hf
      exact hR _ ls H locs _ (congrArg (fun q => (wX6 cI cZ A q)) (Option.some.inj hf)) dX6_keeps_25 hP hD hS
    · have hf := if_f c5 hf
      refine lv_aload_n hx hb dX6_keeps_8 rfl (lv_at hl 0 rfl) ?_
      refine ld_f S iX6 hK hP 0 36 (.ref (A 34)) (gX6_0 _ _ _ _) rfl (by decide) k114 rfl rfl dX6_keeps_9 ?_
      refine lv_iload_n hx hb dX6_keeps_12 rfl (lv_at hl 1 rfl) ?_
      refine lv_iload_n hx hb dX6_keeps_13 rfl (lv_at hl 3 rfl) ?_
      refine lv_iadd hx hb dX6_keeps_14 ?_
      refine lv_aload_n hx hb dX6_keeps_15 rfl (lv_at hl 2 rfl) ?_
      refine lv_iload_n hx hb dX6_keeps_16 rfl (lv_at hl 3 rfl) ?_
      obtain ⟨c17, hf⟩ := ck_t hf
      refine va_iald (f := mm 18) hx hb hK hP 17 0 (gX6_17 _ _ _ _) rfl (inb_in c17) dX6_keeps_17 ?_
      obtain ⟨c18, hf⟩ := ck_t hf
      refine st_i hx hb hK hP hD hS 34 0 (sX6_34 _ _ _ _ _ _) (gX6_34 _ _ _ _) rfl c18 dX6_keeps_18 (fun H locs hP hD hS => ?_)
      refine lv_iinc (v := x3 + 1) (lv' := [(3, .int (x3 + 1)), (0, .ref (A 0)), (1, .int x1), (2, .ref (A 17))]) hx hb dX6_keeps_19 hl (k := 3) rfl rfl (by decide) rfl (fun ls hl => ?_)
      refine lv_goto (tgt := 2) hx hb dX6_keeps_22 (by decide) ?_
      exact hk2 _ hf H locs hP hD hS ls (lv_sub hl [1, 2, 3, 0] rfl)
  intro H locs hP hD hS ls hl
  have hl : lv_has ls 4 [(0, .ref (A 0)), (1, .int x1), (2, .ref (A 17))] := hl
  unfold fX6_keeps_k17 at hf
  refine lv_iconst (v := 0) hx hb dX6_keeps_0 (by decide) ?_
  refine lv_istore_n (lv' := [(3, .int 0), (0, .ref (A 0)), (1, .int x1), (2, .ref (A 17))]) hx hb dX6_keeps_1 rfl hl (by decide) rfl (fun ls hl => ?_)
  exact B2 _ _ _ hf H locs hP hD hS ls (lv_sub hl [1, 2, 3, 0] rfl)
set_option maxHeartbeats 4000000 in
set_option maxRecDepth 100000 in
theorem mX6_back_k17 (l : Launch) (D : va_G) (cI cZ : ClassId) (A : Nat → Nat)  (mm : St) (x1 : Int32) (sz : Nat) (res : St) (hf : fX6_back_k17 mm x1 = some res) : Met l yX6_back wsX6_back ({ frames := 0, cells := 0, slots := 0, locals := 0 }) (mP D (tysX cI cZ) [.ref (A 0), .int x1, .ref (A 17)] (wX6 cI cZ A mm) sz) (mQv D (wX6 cI cZ A mm) (wX6 cI cZ A res) sz) 0 0 (va_A (wX6 cI cZ A mm) sz) := by
  refine mkM_v (cc := cX6_back) (maxL := 4) (own := RX6) (by decide +kernel) rfl rfl (Nat.le_of_ble_eq_true rfl) ?_
  intro p e s m args below meth c A0 Q S hK hG hA hR
  obtain ⟨hx, hb, hml, hown, hts⟩ := id S
  have k114 := hts (.fieldLink RX6 114 "SwitchFloorModel" "kept" "[I") (by decide +kernel)
  have iX6 : ∀ w ∈ wsX60, w ∈ wsX6_back := by decide +kernel
  have B2 : ∀ (x1 : Int32) (mm : St) (x3 : Int32), fX6_back_k17_L2 x1 mm x3 = some res → Bk p l e ({ frames := 0, cells := 0, slots := 0, locals := 0 }) s m args below meth c Q A0 D 4 0 0 (wX6 cI cZ A mm) [(0, .ref (A 0)), (1, .int x1), (2, .ref (A 17)), (3, .int x3)] 2 [] := by
    intro x1 mm x3 hf
    refine loop_ind (step := (fun k a => fX6_back_k17_S2 k x1 (a.1) (a.2))) (fun a => Bk p l e ({ frames := 0, cells := 0, slots := 0, locals := 0 }) s m args below meth c Q A0 D 4 0 0 (wX6 cI cZ A (a.1)) [(0, .ref (A 0)), (1, .int x1), (2, .ref (A 17)), (3, .int (a.2))] 2 []) ?_ _ _ hf
    clear hf
    intro k2 hk2 a hf
    obtain ⟨mm_, x3_⟩ := a
    clear mm x3
    obtain ⟨mm, e_⟩ : ∃ z, z = mm_ := ⟨_, rfl⟩
    subst e_
    obtain ⟨x3, e_⟩ : ∃ z, z = x3_ := ⟨_, rfl⟩
    subst e_
    have hf : fX6_back_k17_S2 k2 x1 mm x3 = some res := hf
    show Bk p l e ({ frames := 0, cells := 0, slots := 0, locals := 0 }) s m args below meth c Q A0 D 4 0 0 (wX6 cI cZ A mm) [(0, .ref (A 0)), (1, .int x1), (2, .ref (A 17)), (3, .int x3)] 2 []
    unfold fX6_back_k17_S2 at hf
    intro H locs hP hD hS ls hl
    refine lv_iload_n hx hb dX6_back_2 rfl (lv_at hl 3 rfl) ?_
    refine lv_aload_n hx hb dX6_back_3 rfl (lv_at hl 2 rfl) ?_
    refine va_alen (v := 6) hx hb hK hP 17 0 (gX6_17 _ _ _ _) rfl rfl dX6_back_4 ?_
    refine lv_icmp_ge (tgt := 25) hx hb dX6_back_5 (by decide) (fun c5 => ?_) (fun c5 => ?_)
    · have hf := if_t c5 hf
      exact hR _ ls H locs _ (congrArg (fun q => (wX6 cI cZ A q)) (Option.some.inj hf)) dX6_back_25 hP hD hS
    · have hf := if_f c5 hf
      refine lv_aload_n hx hb dX6_back_8 rfl (lv_at hl 2 rfl) ?_
      refine lv_iload_n hx hb dX6_back_9 rfl (lv_at hl 3 rfl) ?_
      refine lv_aload_n hx hb dX6_back_10 rfl (lv_at hl 0 rfl) ?_
      refine ld_f S iX6 hK hP 0 36 (.ref (A 34)) (gX6_0 _ _ _ _) rfl (by decide) k114 rfl rfl dX6_back_11 ?_
      refine lv_iload_n hx hb dX6_back_14 rfl (lv_at hl 1 rfl) ?_
      refine lv_iload_n hx hb dX6_back_15 rfl (lv_at hl 3 rfl) ?_
      refine lv_iadd hx hb dX6_back_16 ?_
      obtain ⟨c17, hf⟩ := ck_t hf
      refine va_iald (f := mm 36) hx hb hK hP 34 0 (gX6_34 _ _ _ _) rfl (inb_in c17) dX6_back_17 ?_
      obtain ⟨c18, hf⟩ := ck_t hf
      refine st_i hx hb hK hP hD hS 17 0 (sX6_17 _ _ _ _ _ _) (gX6_17 _ _ _ _) rfl c18 dX6_back_18 (fun H locs hP hD hS => ?_)
      refine lv_iinc (v := x3 + 1) (lv' := [(3, .int (x3 + 1)), (0, .ref (A 0)), (1, .int x1), (2, .ref (A 17))]) hx hb dX6_back_19 hl (k := 3) rfl rfl (by decide) rfl (fun ls hl => ?_)
      refine lv_goto (tgt := 2) hx hb dX6_back_22 (by decide) ?_
      exact hk2 _ hf H locs hP hD hS ls (lv_sub hl [1, 2, 3, 0] rfl)
  intro H locs hP hD hS ls hl
  have hl : lv_has ls 4 [(0, .ref (A 0)), (1, .int x1), (2, .ref (A 17))] := hl
  unfold fX6_back_k17 at hf
  refine lv_iconst (v := 0) hx hb dX6_back_0 (by decide) ?_
  refine lv_istore_n (lv' := [(3, .int 0), (0, .ref (A 0)), (1, .int x1), (2, .ref (A 17))]) hx hb dX6_back_1 rfl hl (by decide) rfl (fun ls hl => ?_)
  exact B2 _ _ _ hf H locs hP hD hS ls (lv_sub hl [1, 2, 3, 0] rfl)
set_option maxHeartbeats 4000000 in
set_option maxRecDepth 100000 in
theorem mX6_keeps_k16 (l : Launch) (D : va_G) (cI cZ : ClassId) (A : Nat → Nat)  (mm : St) (x1 : Int32) (sz : Nat) (res : St) (hf : fX6_keeps_k16 mm x1 = some res) : Met l yX6_keeps wsX6_keeps ({ frames := 0, cells := 0, slots := 0, locals := 0 }) (mP D (tysX cI cZ) [.ref (A 0), .int x1, .ref (A 16)] (wX6 cI cZ A mm) sz) (mQv D (wX6 cI cZ A mm) (wX6 cI cZ A res) sz) 0 0 (va_A (wX6 cI cZ A mm) sz) := by
  refine mkM_v (cc := cX6_keeps) (maxL := 4) (own := RX6) (by decide +kernel) rfl rfl (Nat.le_of_ble_eq_true rfl) ?_
  intro p e s m args below meth c A0 Q S hK hG hA hR
  obtain ⟨hx, hb, hml, hown, hts⟩ := id S
  have k114 := hts (.fieldLink RX6 114 "SwitchFloorModel" "kept" "[I") (by decide +kernel)
  have iX6 : ∀ w ∈ wsX60, w ∈ wsX6_keeps := by decide +kernel
  have B2 : ∀ (x1 : Int32) (mm : St) (x3 : Int32), fX6_keeps_k16_L2 x1 mm x3 = some res → Bk p l e ({ frames := 0, cells := 0, slots := 0, locals := 0 }) s m args below meth c Q A0 D 4 0 0 (wX6 cI cZ A mm) [(0, .ref (A 0)), (1, .int x1), (2, .ref (A 16)), (3, .int x3)] 2 [] := by
    intro x1 mm x3 hf
    refine loop_ind (step := (fun k a => fX6_keeps_k16_S2 k x1 (a.1) (a.2))) (fun a => Bk p l e ({ frames := 0, cells := 0, slots := 0, locals := 0 }) s m args below meth c Q A0 D 4 0 0 (wX6 cI cZ A (a.1)) [(0, .ref (A 0)), (1, .int x1), (2, .ref (A 16)), (3, .int (a.2))] 2 []) ?_ _ _ hf
    clear hf
    intro k2 hk2 a hf
    obtain ⟨mm_, x3_⟩ := a
    clear mm x3
    obtain ⟨mm, e_⟩ : ∃ z, z = mm_ := ⟨_, rfl⟩
    subst e_
    obtain ⟨x3, e_⟩ : ∃ z, z = x3_ := ⟨_, rfl⟩
    subst e_
    have hf : fX6_keeps_k16_S2 k2 x1 mm x3 = some res := hf
    show Bk p l e ({ frames := 0, cells := 0, slots := 0, locals := 0 }) s m args below meth c Q A0 D 4 0 0 (wX6 cI cZ A mm) [(0, .ref (A 0)), (1, .int x1), (2, .ref (A 16)), (3, .int x3)] 2 []
    unfold fX6_keeps_k16_S2 at hf
    intro H locs hP hD hS ls hl
    refine lv_iload_n hx hb dX6_keeps_2 rfl (lv_at hl 3 rfl) ?_
    refine lv_aload_n hx hb dX6_keeps_3 rfl (lv_at hl 2 rfl) ?_
    refine va_alen (v := 6) hx hb hK hP 16 0 (gX6_16 _ _ _ _) rfl rfl dX6_keeps_4 ?_
    refine lv_icmp_ge (tgt := 25) hx hb dX6_keeps_5 (by decide) (fun c5 => ?_) (fun c5 => ?_)
    · have hf := if_t c5 hf
      exact hR _ ls H locs _ (congrArg (fun q => (wX6 cI cZ A q)) (Option.some.inj hf)) dX6_keeps_25 hP hD hS
    · have hf := if_f c5 hf
      refine lv_aload_n hx hb dX6_keeps_8 rfl (lv_at hl 0 rfl) ?_
      refine ld_f S iX6 hK hP 0 36 (.ref (A 34)) (gX6_0 _ _ _ _) rfl (by decide) k114 rfl rfl dX6_keeps_9 ?_
      refine lv_iload_n hx hb dX6_keeps_12 rfl (lv_at hl 1 rfl) ?_
      refine lv_iload_n hx hb dX6_keeps_13 rfl (lv_at hl 3 rfl) ?_
      refine lv_iadd hx hb dX6_keeps_14 ?_
      refine lv_aload_n hx hb dX6_keeps_15 rfl (lv_at hl 2 rfl) ?_
      refine lv_iload_n hx hb dX6_keeps_16 rfl (lv_at hl 3 rfl) ?_
      obtain ⟨c17, hf⟩ := ck_t hf
      refine va_iald (f := mm 17) hx hb hK hP 16 0 (gX6_16 _ _ _ _) rfl (inb_in c17) dX6_keeps_17 ?_
      obtain ⟨c18, hf⟩ := ck_t hf
      refine st_i hx hb hK hP hD hS 34 0 (sX6_34 _ _ _ _ _ _) (gX6_34 _ _ _ _) rfl c18 dX6_keeps_18 (fun H locs hP hD hS => ?_)
      refine lv_iinc (v := x3 + 1) (lv' := [(3, .int (x3 + 1)), (0, .ref (A 0)), (1, .int x1), (2, .ref (A 16))]) hx hb dX6_keeps_19 hl (k := 3) rfl rfl (by decide) rfl (fun ls hl => ?_)
      refine lv_goto (tgt := 2) hx hb dX6_keeps_22 (by decide) ?_
      exact hk2 _ hf H locs hP hD hS ls (lv_sub hl [1, 2, 3, 0] rfl)
  intro H locs hP hD hS ls hl
  have hl : lv_has ls 4 [(0, .ref (A 0)), (1, .int x1), (2, .ref (A 16))] := hl
  unfold fX6_keeps_k16 at hf
  refine lv_iconst (v := 0) hx hb dX6_keeps_0 (by decide) ?_
  refine lv_istore_n (lv' := [(3, .int 0), (0, .ref (A 0)), (1, .int x1), (2, .ref (A 16))]) hx hb dX6_keeps_1 rfl hl (by decide) rfl (fun ls hl => ?_)
  exact B2 _ _ _ hf H locs hP hD hS ls (lv_sub hl [1, 2, 3, 0] rfl)
set_option maxHeartbeats 4000000 in
set_option maxRecDepth 100000 in
theorem mX6_back_k16 (l : Launch) (D : va_G) (cI cZ : ClassId) (A : Nat → Nat)  (mm : St) (x1 : Int32) (sz : Nat) (res : St) (hf : fX6_back_k16 mm x1 = some res) : Met l yX6_back wsX6_back ({ frames := 0, cells := 0, slots := 0, locals := 0 }) (mP D (tysX cI cZ) [.ref (A 0), .int x1, .ref (A 16)] (wX6 cI cZ A mm) sz) (mQv D (wX6 cI cZ A mm) (wX6 cI cZ A res) sz) 0 0 (va_A (wX6 cI cZ A mm) sz) := by
  refine mkM_v (cc := cX6_back) (maxL := 4) (own := RX6) (by decide +kernel) rfl rfl (Nat.le_of_ble_eq_true rfl) ?_
  intro p e s m args below meth c A0 Q S hK hG hA hR
  obtain ⟨hx, hb, hml, hown, hts⟩ := id S
  have k114 := hts (.fieldLink RX6 114 "SwitchFloorModel" "kept" "[I") (by decide +kernel)
  have iX6 : ∀ w ∈ wsX60, w ∈ wsX6_back := by decide +kernel
  have B2 : ∀ (x1 : Int32) (mm : St) (x3 : Int32), fX6_back_k16_L2 x1 mm x3 = some res → Bk p l e ({ frames := 0, cells := 0, slots := 0, locals := 0 }) s m args below meth c Q A0 D 4 0 0 (wX6 cI cZ A mm) [(0, .ref (A 0)), (1, .int x1), (2, .ref (A 16)), (3, .int x3)] 2 [] := by
    intro x1 mm x3 hf
    refine loop_ind (step := (fun k a => fX6_back_k16_S2 k x1 (a.1) (a.2))) (fun a => Bk p l e ({ frames := 0, cells := 0, slots := 0, locals := 0 }) s m args below meth c Q A0 D 4 0 0 (wX6 cI cZ A (a.1)) [(0, .ref (A 0)), (1, .int x1), (2, .ref (A 16)), (3, .int (a.2))] 2 []) ?_ _ _ hf
    clear hf
    intro k2 hk2 a hf
    obtain ⟨mm_, x3_⟩ := a
    clear mm x3
    obtain ⟨mm, e_⟩ : ∃ z, z = mm_ := ⟨_, rfl⟩
    subst e_
    obtain ⟨x3, e_⟩ : ∃ z, z = x3_ := ⟨_, rfl⟩
    subst e_
    have hf : fX6_back_k16_S2 k2 x1 mm x3 = some res := hf
    show Bk p l e ({ frames := 0, cells := 0, slots := 0, locals := 0 }) s m args below meth c Q A0 D 4 0 0 (wX6 cI cZ A mm) [(0, .ref (A 0)), (1, .int x1), (2, .ref (A 16)), (3, .int x3)] 2 []
    unfold fX6_back_k16_S2 at hf
    intro H locs hP hD hS ls hl
    refine lv_iload_n hx hb dX6_back_2 rfl (lv_at hl 3 rfl) ?_
    refine lv_aload_n hx hb dX6_back_3 rfl (lv_at hl 2 rfl) ?_
    refine va_alen (v := 6) hx hb hK hP 16 0 (gX6_16 _ _ _ _) rfl rfl dX6_back_4 ?_
    refine lv_icmp_ge (tgt := 25) hx hb dX6_back_5 (by decide) (fun c5 => ?_) (fun c5 => ?_)
    · have hf := if_t c5 hf
      exact hR _ ls H locs _ (congrArg (fun q => (wX6 cI cZ A q)) (Option.some.inj hf)) dX6_back_25 hP hD hS
    · have hf := if_f c5 hf
      refine lv_aload_n hx hb dX6_back_8 rfl (lv_at hl 2 rfl) ?_
      refine lv_iload_n hx hb dX6_back_9 rfl (lv_at hl 3 rfl) ?_
      refine lv_aload_n hx hb dX6_back_10 rfl (lv_at hl 0 rfl) ?_
      refine ld_f S iX6 hK hP 0 36 (.ref (A 34)) (gX6_0 _ _ _ _) rfl (by decide) k114 rfl rfl dX6_back_11 ?_
      refine lv_iload_n hx hb dX6_back_14 rfl (lv_at hl 1 rfl) ?_
      refine lv_iload_n hx hb dX6_back_15 rfl (lv_at hl 3 rfl) ?_
      refine lv_iadd hx hb dX6_back_16 ?_
      obtain ⟨c17, hf⟩ := ck_t hf
      refine va_iald (f := mm 36) hx hb hK hP 34 0 (gX6_34 _ _ _ _) rfl (inb_in c17) dX6_back_17 ?_
      obtain ⟨c18, hf⟩ := ck_t hf
      refine st_i hx hb hK hP hD hS 16 0 (sX6_16 _ _ _ _ _ _) (gX6_16 _ _ _ _) rfl c18 dX6_back_18 (fun H locs hP hD hS => ?_)
      refine lv_iinc (v := x3 + 1) (lv' := [(3, .int (x3 + 1)), (0, .ref (A 0)), (1, .int x1), (2, .ref (A 16))]) hx hb dX6_back_19 hl (k := 3) rfl rfl (by decide) rfl (fun ls hl => ?_)
      refine lv_goto (tgt := 2) hx hb dX6_back_22 (by decide) ?_
      exact hk2 _ hf H locs hP hD hS ls (lv_sub hl [1, 2, 3, 0] rfl)
  intro H locs hP hD hS ls hl
  have hl : lv_has ls 4 [(0, .ref (A 0)), (1, .int x1), (2, .ref (A 16))] := hl
  unfold fX6_back_k16 at hf
  refine lv_iconst (v := 0) hx hb dX6_back_0 (by decide) ?_
  refine lv_istore_n (lv' := [(3, .int 0), (0, .ref (A 0)), (1, .int x1), (2, .ref (A 16))]) hx hb dX6_back_1 rfl hl (by decide) rfl (fun ls hl => ?_)
  exact B2 _ _ _ hf H locs hP hD hS ls (lv_sub hl [1, 2, 3, 0] rfl)
set_option maxHeartbeats 4000000 in
set_option maxRecDepth 100000 in
theorem mX6_keeps_k15 (l : Launch) (D : va_G) (cI cZ : ClassId) (A : Nat → Nat)  (mm : St) (x1 : Int32) (sz : Nat) (res : St) (hf : fX6_keeps_k15 mm x1 = some res) : Met l yX6_keeps wsX6_keeps ({ frames := 0, cells := 0, slots := 0, locals := 0 }) (mP D (tysX cI cZ) [.ref (A 0), .int x1, .ref (A 15)] (wX6 cI cZ A mm) sz) (mQv D (wX6 cI cZ A mm) (wX6 cI cZ A res) sz) 0 0 (va_A (wX6 cI cZ A mm) sz) := by
  refine mkM_v (cc := cX6_keeps) (maxL := 4) (own := RX6) (by decide +kernel) rfl rfl (Nat.le_of_ble_eq_true rfl) ?_
  intro p e s m args below meth c A0 Q S hK hG hA hR
  obtain ⟨hx, hb, hml, hown, hts⟩ := id S
  have k114 := hts (.fieldLink RX6 114 "SwitchFloorModel" "kept" "[I") (by decide +kernel)
  have iX6 : ∀ w ∈ wsX60, w ∈ wsX6_keeps := by decide +kernel
  have B2 : ∀ (x1 : Int32) (mm : St) (x3 : Int32), fX6_keeps_k15_L2 x1 mm x3 = some res → Bk p l e ({ frames := 0, cells := 0, slots := 0, locals := 0 }) s m args below meth c Q A0 D 4 0 0 (wX6 cI cZ A mm) [(0, .ref (A 0)), (1, .int x1), (2, .ref (A 15)), (3, .int x3)] 2 [] := by
    intro x1 mm x3 hf
    refine loop_ind (step := (fun k a => fX6_keeps_k15_S2 k x1 (a.1) (a.2))) (fun a => Bk p l e ({ frames := 0, cells := 0, slots := 0, locals := 0 }) s m args below meth c Q A0 D 4 0 0 (wX6 cI cZ A (a.1)) [(0, .ref (A 0)), (1, .int x1), (2, .ref (A 15)), (3, .int (a.2))] 2 []) ?_ _ _ hf
    clear hf
    intro k2 hk2 a hf
    obtain ⟨mm_, x3_⟩ := a
    clear mm x3
    obtain ⟨mm, e_⟩ : ∃ z, z = mm_ := ⟨_, rfl⟩
    subst e_
    obtain ⟨x3, e_⟩ : ∃ z, z = x3_ := ⟨_, rfl⟩
    subst e_
    have hf : fX6_keeps_k15_S2 k2 x1 mm x3 = some res := hf
    show Bk p l e ({ frames := 0, cells := 0, slots := 0, locals := 0 }) s m args below meth c Q A0 D 4 0 0 (wX6 cI cZ A mm) [(0, .ref (A 0)), (1, .int x1), (2, .ref (A 15)), (3, .int x3)] 2 []
    unfold fX6_keeps_k15_S2 at hf
    intro H locs hP hD hS ls hl
    refine lv_iload_n hx hb dX6_keeps_2 rfl (lv_at hl 3 rfl) ?_
    refine lv_aload_n hx hb dX6_keeps_3 rfl (lv_at hl 2 rfl) ?_
    refine va_alen (v := 6) hx hb hK hP 15 0 (gX6_15 _ _ _ _) rfl rfl dX6_keeps_4 ?_
    refine lv_icmp_ge (tgt := 25) hx hb dX6_keeps_5 (by decide) (fun c5 => ?_) (fun c5 => ?_)
    · have hf := if_t c5 hf
      exact hR _ ls H locs _ (congrArg (fun q => (wX6 cI cZ A q)) (Option.some.inj hf)) dX6_keeps_25 hP hD hS
    · have hf := if_f c5 hf
      refine lv_aload_n hx hb dX6_keeps_8 rfl (lv_at hl 0 rfl) ?_
      refine ld_f S iX6 hK hP 0 36 (.ref (A 34)) (gX6_0 _ _ _ _) rfl (by decide) k114 rfl rfl dX6_keeps_9 ?_
      refine lv_iload_n hx hb dX6_keeps_12 rfl (lv_at hl 1 rfl) ?_
      refine lv_iload_n hx hb dX6_keeps_13 rfl (lv_at hl 3 rfl) ?_
      refine lv_iadd hx hb dX6_keeps_14 ?_
      refine lv_aload_n hx hb dX6_keeps_15 rfl (lv_at hl 2 rfl) ?_
      refine lv_iload_n hx hb dX6_keeps_16 rfl (lv_at hl 3 rfl) ?_
      obtain ⟨c17, hf⟩ := ck_t hf
      refine va_iald (f := mm 16) hx hb hK hP 15 0 (gX6_15 _ _ _ _) rfl (inb_in c17) dX6_keeps_17 ?_
      obtain ⟨c18, hf⟩ := ck_t hf
      refine st_i hx hb hK hP hD hS 34 0 (sX6_34 _ _ _ _ _ _) (gX6_34 _ _ _ _) rfl c18 dX6_keeps_18 (fun H locs hP hD hS => ?_)
      refine lv_iinc (v := x3 + 1) (lv' := [(3, .int (x3 + 1)), (0, .ref (A 0)), (1, .int x1), (2, .ref (A 15))]) hx hb dX6_keeps_19 hl (k := 3) rfl rfl (by decide) rfl (fun ls hl => ?_)
      refine lv_goto (tgt := 2) hx hb dX6_keeps_22 (by decide) ?_
      exact hk2 _ hf H locs hP hD hS ls (lv_sub hl [1, 2, 3, 0] rfl)
  intro H locs hP hD hS ls hl
  have hl : lv_has ls 4 [(0, .ref (A 0)), (1, .int x1), (2, .ref (A 15))] := hl
  unfold fX6_keeps_k15 at hf
  refine lv_iconst (v := 0) hx hb dX6_keeps_0 (by decide) ?_
  refine lv_istore_n (lv' := [(3, .int 0), (0, .ref (A 0)), (1, .int x1), (2, .ref (A 15))]) hx hb dX6_keeps_1 rfl hl (by decide) rfl (fun ls hl => ?_)
  exact B2 _ _ _ hf H locs hP hD hS ls (lv_sub hl [1, 2, 3, 0] rfl)
set_option maxHeartbeats 4000000 in
set_option maxRecDepth 100000 in
theorem mX6_back_k15 (l : Launch) (D : va_G) (cI cZ : ClassId) (A : Nat → Nat)  (mm : St) (x1 : Int32) (sz : Nat) (res : St) (hf : fX6_back_k15 mm x1 = some res) : Met l yX6_back wsX6_back ({ frames := 0, cells := 0, slots := 0, locals := 0 }) (mP D (tysX cI cZ) [.ref (A 0), .int x1, .ref (A 15)] (wX6 cI cZ A mm) sz) (mQv D (wX6 cI cZ A mm) (wX6 cI cZ A res) sz) 0 0 (va_A (wX6 cI cZ A mm) sz) := by
  refine mkM_v (cc := cX6_back) (maxL := 4) (own := RX6) (by decide +kernel) rfl rfl (Nat.le_of_ble_eq_true rfl) ?_
  intro p e s m args below meth c A0 Q S hK hG hA hR
  obtain ⟨hx, hb, hml, hown, hts⟩ := id S
  have k114 := hts (.fieldLink RX6 114 "SwitchFloorModel" "kept" "[I") (by decide +kernel)
  have iX6 : ∀ w ∈ wsX60, w ∈ wsX6_back := by decide +kernel
  have B2 : ∀ (x1 : Int32) (mm : St) (x3 : Int32), fX6_back_k15_L2 x1 mm x3 = some res → Bk p l e ({ frames := 0, cells := 0, slots := 0, locals := 0 }) s m args below meth c Q A0 D 4 0 0 (wX6 cI cZ A mm) [(0, .ref (A 0)), (1, .int x1), (2, .ref (A 15)), (3, .int x3)] 2 [] := by
    intro x1 mm x3 hf
    refine loop_ind (step := (fun k a => fX6_back_k15_S2 k x1 (a.1) (a.2))) (fun a => Bk p l e ({ frames := 0, cells := 0, slots := 0, locals := 0 }) s m args below meth c Q A0 D 4 0 0 (wX6 cI cZ A (a.1)) [(0, .ref (A 0)), (1, .int x1), (2, .ref (A 15)), (3, .int (a.2))] 2 []) ?_ _ _ hf
    clear hf
    intro k2 hk2 a hf
    obtain ⟨mm_, x3_⟩ := a
    clear mm x3
    obtain ⟨mm, e_⟩ : ∃ z, z = mm_ := ⟨_, rfl⟩
    subst e_
    obtain ⟨x3, e_⟩ : ∃ z, z = x3_ := ⟨_, rfl⟩
    subst e_
    have hf : fX6_back_k15_S2 k2 x1 mm x3 = some res := hf
    show Bk p l e ({ frames := 0, cells := 0, slots := 0, locals := 0 }) s m args below meth c Q A0 D 4 0 0 (wX6 cI cZ A mm) [(0, .ref (A 0)), (1, .int x1), (2, .ref (A 15)), (3, .int x3)] 2 []
    unfold fX6_back_k15_S2 at hf
    intro H locs hP hD hS ls hl
    refine lv_iload_n hx hb dX6_back_2 rfl (lv_at hl 3 rfl) ?_
    refine lv_aload_n hx hb dX6_back_3 rfl (lv_at hl 2 rfl) ?_
    refine va_alen (v := 6) hx hb hK hP 15 0 (gX6_15 _ _ _ _) rfl rfl dX6_back_4 ?_
    refine lv_icmp_ge (tgt := 25) hx hb dX6_back_5 (by decide) (fun c5 => ?_) (fun c5 => ?_)
    · have hf := if_t c5 hf
      exact hR _ ls H locs _ (congrArg (fun q => (wX6 cI cZ A q)) (Option.some.inj hf)) dX6_back_25 hP hD hS
    · have hf := if_f c5 hf
      refine lv_aload_n hx hb dX6_back_8 rfl (lv_at hl 2 rfl) ?_
      refine lv_iload_n hx hb dX6_back_9 rfl (lv_at hl 3 rfl) ?_
      refine lv_aload_n hx hb dX6_back_10 rfl (lv_at hl 0 rfl) ?_
      refine ld_f S iX6 hK hP 0 36 (.ref (A 34)) (gX6_0 _ _ _ _) rfl (by decide) k114 rfl rfl dX6_back_11 ?_
      refine lv_iload_n hx hb dX6_back_14 rfl (lv_at hl 1 rfl) ?_
      refine lv_iload_n hx hb dX6_back_15 rfl (lv_at hl 3 rfl) ?_
      refine lv_iadd hx hb dX6_back_16 ?_
      obtain ⟨c17, hf⟩ := ck_t hf
      refine va_iald (f := mm 36) hx hb hK hP 34 0 (gX6_34 _ _ _ _) rfl (inb_in c17) dX6_back_17 ?_
      obtain ⟨c18, hf⟩ := ck_t hf
      refine st_i hx hb hK hP hD hS 15 0 (sX6_15 _ _ _ _ _ _) (gX6_15 _ _ _ _) rfl c18 dX6_back_18 (fun H locs hP hD hS => ?_)
      refine lv_iinc (v := x3 + 1) (lv' := [(3, .int (x3 + 1)), (0, .ref (A 0)), (1, .int x1), (2, .ref (A 15))]) hx hb dX6_back_19 hl (k := 3) rfl rfl (by decide) rfl (fun ls hl => ?_)
      refine lv_goto (tgt := 2) hx hb dX6_back_22 (by decide) ?_
      exact hk2 _ hf H locs hP hD hS ls (lv_sub hl [1, 2, 3, 0] rfl)
  intro H locs hP hD hS ls hl
  have hl : lv_has ls 4 [(0, .ref (A 0)), (1, .int x1), (2, .ref (A 15))] := hl
  unfold fX6_back_k15 at hf
  refine lv_iconst (v := 0) hx hb dX6_back_0 (by decide) ?_
  refine lv_istore_n (lv' := [(3, .int 0), (0, .ref (A 0)), (1, .int x1), (2, .ref (A 15))]) hx hb dX6_back_1 rfl hl (by decide) rfl (fun ls hl => ?_)
  exact B2 _ _ _ hf H locs hP hD hS ls (lv_sub hl [1, 2, 3, 0] rfl)
set_option maxHeartbeats 4000000 in
set_option maxRecDepth 100000 in
theorem mX6_rows (l : Launch) (D : va_G) (cI cZ : ClassId) (A : Nat → Nat)  (mm : St) (x1 : Int32) (sz : Nat) (res : St) (hf : fX6_rows mm x1 = some res) : Met l yX6_rows wsX6_rows ({ frames := 1, cells := 0, slots := 0, locals := 23 }) (mP D (tysX cI cZ) [.ref (A 0), .int x1] (wX6 cI cZ A mm) sz) (mQv D (wX6 cI cZ A mm) (wX6 cI cZ A res) sz) 0 0 (va_A (wX6 cI cZ A mm) sz) := by
  refine mkM_v (cc := cX6_rows) (maxL := 5) (own := RX6) (by decide +kernel) rfl rfl (Nat.le_of_ble_eq_true rfl) ?_
  intro p e s m args below meth c A0 Q S hK hG hA hR
  obtain ⟨hx, hb, hml, hown, hts⟩ := id S
  have k57 := hts (.fieldLink RX6 57 "SwitchFloorModel" "root" "[I") (by decide +kernel)
  have iX6 : ∀ w ∈ wsX60, w ∈ wsX6_rows := by decide +kernel
  have k117 := hts (.fieldLink RX6 117 "SwitchFloorModel" "keptFlags" "[Z") (by decide +kernel)
  have k45 := hts (.fieldLink RX6 45 "SwitchFloorModel" "isOpen" "[Z") (by decide +kernel)
  have k39 := hts (.fieldLink RX6 39 "SwitchFloorModel" "isShut" "[Z") (by decide +kernel)
  have k93 := hts (.fieldLink RX6 93 "SwitchFloorModel" "entryBeat" "[I") (by decide +kernel)
  have k90 := hts (.fieldLink RX6 90 "SwitchFloorModel" "entryPort" "[I") (by decide +kernel)
  have k87 := hts (.fieldLink RX6 87 "SwitchFloorModel" "entryHouse" "[I") (by decide +kernel)
  have k84 := hts (.fieldLink RX6 84 "SwitchFloorModel" "entryLane" "[I") (by decide +kernel)
  have k81 := hts (.fieldLink RX6 81 "SwitchFloorModel" "entries" "[I") (by decide +kernel)
  have k54 := hts (.fieldLink RX6 54 "SwitchFloorModel" "floods" "[I") (by decide +kernel)
  have k42 := hts (.fieldLink RX6 42 "SwitchFloorModel" "stormEnd" "[I") (by decide +kernel)
  have k51 := hts (.fieldLink RX6 51 "SwitchFloorModel" "streak" "[I") (by decide +kernel)
  have k48 := hts (.fieldLink RX6 48 "SwitchFloorModel" "role" "[I") (by decide +kernel)
  have k66 := hts (.fieldLink RX6 66 "SwitchFloorModel" "rootPort" "[I") (by decide +kernel)
  have k63 := hts (.fieldLink RX6 63 "SwitchFloorModel" "hops" "[I") (by decide +kernel)
  have k60 := hts (.fieldLink RX6 60 "SwitchFloorModel" "far" "[I") (by decide +kernel)
  have B258 : ∀ (mm : St) (x1 : Int32) (x4 : Int32) (k216 : (St × Int32) → Option (St)) (hk216 : ∀ a216, k216 a216 = some res → Bk p l e ({ frames := 1, cells := 0, slots := 0, locals := 23 }) s m args below meth c Q A0 D 5 0 0 (wX6 cI cZ A (a216.1)) [(0, .ref (A 0)), (1, .int x1), (4, .int (a216.2))] 216 []), fX6_rows_J258 k216 mm x1 x4 = some res → Bk p l e ({ frames := 1, cells := 0, slots := 0, locals := 23 }) s m args below meth c Q A0 D 5 0 0 (wX6 cI cZ A mm) [(0, .ref (A 0)), (1, .int x1), (4, .int x4)] 258 [] := by
    intro mm x1 x4 k216 hk216 hf
    unfold fX6_rows_J258 at hf
    intro H locs hP hD hS ls hl
    refine lv_aload_n hx hb dX6_rows_258 rfl (lv_at hl 0 rfl) ?_
    refine ld_f S iX6 hK hP 0 37 (.ref (A 35)) (gX6_0 _ _ _ _) rfl (by decide) k117 rfl rfl dX6_rows_259 ?_
    refine lv_iload hx hb dX6_rows_262 (lv_at hl 2 rfl) ?_
    refine lv_aload_n hx hb dX6_rows_264 rfl (lv_at hl 0 rfl) ?_
    refine ld_f S iX6 hK hP 0 12 (.ref (A 11)) (gX6_0 _ _ _ _) rfl (by decide) k45 rfl rfl dX6_rows_265 ?_
    refine lv_iload hx hb dX6_rows_268 (lv_at hl 2 rfl) ?_
    obtain ⟨c270, hf⟩ := ck_t hf
    refine va_zald (f := mm 12) hx hb hK hP 11 1 (gX6_11 _ _ _ _) rfl (inb_in c270) dX6_rows_270 ?_
    obtain ⟨c271, hf⟩ := ck_t hf
    refine st_z hx hb hK hP hD hS 35 1 (sX6_35 _ _ _ _ _ _) (gX6_35 _ _ _ _) rfl c271 dX6_rows_271 (fun H locs hP hD hS => ?_)
    refine lv_aload_n hx hb dX6_rows_272 rfl (lv_at hl 0 rfl) ?_
    refine ld_f S iX6 hK hP 0 37 (.ref (A 35)) (gX6_0 _ _ _ _) rfl (by decide) k117 rfl rfl dX6_rows_273 ?_
    refine lv_bipush (v := 30) hx hb dX6_rows_276 (by decide) ?_
    refine lv_iload hx hb dX6_rows_278 (lv_at hl 2 rfl) ?_
    refine lv_iadd hx hb dX6_rows_280 ?_
    refine lv_aload_n hx hb dX6_rows_281 rfl (lv_at hl 0 rfl) ?_
    refine ld_f S iX6 hK hP 0 10 (.ref (A 9)) (gX6_0 _ _ _ _) rfl (by decide) k39 rfl rfl dX6_rows_282 ?_
    refine lv_iload hx hb dX6_rows_285 (lv_at hl 2 rfl) ?_
    obtain ⟨c287, hf⟩ := ck_t hf
    refine va_zald (f := mm 10) hx hb hK hP 9 1 (gX6_9 _ _ _ _) rfl (inb_in c287) dX6_rows_287 ?_
    obtain ⟨c288, hf⟩ := ck_t hf
    refine st_z hx hb hK hP hD hS 35 1 (sX6_35 _ _ _ _ _ _) (gX6_35 _ _ _ _) rfl c288 dX6_rows_288 (fun H locs hP hD hS => ?_)
    refine lv_iinc (v := x4 + 1) (lv' := [(4, .int (x4 + 1)), (0, .ref (A 0)), (1, .int x1)]) hx hb dX6_rows_289 hl (k := 2) rfl rfl (by decide) rfl (fun ls hl => ?_)
    refine lv_goto (tgt := 216) hx hb dX6_rows_292 (by decide) ?_
    exact hk216 _ hf H locs hP hD hS ls (lv_sub hl [1, 2, 0] rfl)
  have B216 : ∀ (x1 : Int32) (mm : St) (x4 : Int32), fX6_rows_L216 x1 mm x4 = some res → Bk p l e ({ frames := 1, cells := 0, slots := 0, locals := 23 }) s m args below meth c Q A0 D 5 0 0 (wX6 cI cZ A mm) [(0, .ref (A 0)), (1, .int x1), (4, .int x4)] 216 [] := by
    intro x1 mm x4 hf
    refine loop_ind (step := (fun k a => fX6_rows_S216 k x1 (a.1) (a.2))) (fun a => Bk p l e ({ frames := 1, cells := 0, slots := 0, locals := 23 }) s m args below meth c Q A0 D 5 0 0 (wX6 cI cZ A (a.1)) [(0, .ref (A 0)), (1, .int x1), (4, .int (a.2))] 216 []) ?_ _ _ hf
    clear hf
    intro k216 hk216 a hf
    obtain ⟨mm_, x4_⟩ := a
    clear mm x4
    obtain ⟨mm, e_⟩ : ∃ z, z = mm_ := ⟨_, rfl⟩
    subst e_
    obtain ⟨x4, e_⟩ : ∃ z, z = x4_ := ⟨_, rfl⟩
    subst e_
    have hf : fX6_rows_S216 k216 x1 mm x4 = some res := hf
    show Bk p l e ({ frames := 1, cells := 0, slots := 0, locals := 23 }) s m args below meth c Q A0 D 5 0 0 (wX6 cI cZ A mm) [(0, .ref (A 0)), (1, .int x1), (4, .int x4)] 216 []
    unfold fX6_rows_S216 at hf
    intro H locs hP hD hS ls hl
    refine lv_iload hx hb dX6_rows_216 (lv_at hl 2 rfl) ?_
    refine lv_bipush (v := 30) hx hb dX6_rows_218 (by decide) ?_
    refine lv_icmp_ge (tgt := 295) hx hb dX6_rows_220 (by decide) (fun c220 => ?_) (fun c220 => ?_)
    · have hf := if_t c220 hf
      exact hR _ ls H locs _ (congrArg (fun q => (wX6 cI cZ A q)) (Option.some.inj hf)) dX6_rows_295 hP hD hS
    · have hf := if_f c220 hf
      refine lv_iload_n hx hb dX6_rows_223 rfl (lv_at hl 1 rfl) ?_
      refine lv_if_eq (tgt := 258) hx hb dX6_rows_224 (by decide) (fun c224 => ?_) (fun c224 => ?_)
      · have hf := if_t c224 hf
        exact B258 _ _ _ k216 hk216 hf H locs hP hD hS ls (lv_sub hl [0, 1, 2] rfl)
      · have hf := if_f c224 hf
        refine lv_aload_n hx hb dX6_rows_227 rfl (lv_at hl 0 rfl) ?_
        refine ld_f S iX6 hK hP 0 12 (.ref (A 11)) (gX6_0 _ _ _ _) rfl (by decide) k45 rfl rfl dX6_rows_228 ?_
        refine lv_iload hx hb dX6_rows_231 (lv_at hl 2 rfl) ?_
        refine lv_aload_n hx hb dX6_rows_233 rfl (lv_at hl 0 rfl) ?_
        refine ld_f S iX6 hK hP 0 37 (.ref (A 35)) (gX6_0 _ _ _ _) rfl (by decide) k117 rfl rfl dX6_rows_234 ?_
        refine lv_iload hx hb dX6_rows_237 (lv_at hl 2 rfl) ?_
        obtain ⟨c239, hf⟩ := ck_t hf
        refine va_zald (f := mm 37) hx hb hK hP 35 1 (gX6_35 _ _ _ _) rfl (inb_in c239) dX6_rows_239 ?_
        obtain ⟨c240, hf⟩ := ck_t hf
        refine st_z hx hb hK hP hD hS 11 1 (sX6_11 _ _ _ _ _ _) (gX6_11 _ _ _ _) rfl c240 dX6_rows_240 (fun H locs hP hD hS => ?_)
        refine lv_aload_n hx hb dX6_rows_241 rfl (lv_at hl 0 rfl) ?_
        refine ld_f S iX6 hK hP 0 10 (.ref (A 9)) (gX6_0 _ _ _ _) rfl (by decide) k39 rfl rfl dX6_rows_242 ?_
        refine lv_iload hx hb dX6_rows_245 (lv_at hl 2 rfl) ?_
        refine lv_aload_n hx hb dX6_rows_247 rfl (lv_at hl 0 rfl) ?_
        refine ld_f S iX6 hK hP 0 37 (.ref (A 35)) (gX6_0 _ _ _ _) rfl (by decide) k117 rfl rfl dX6_rows_248 ?_
        refine lv_bipush (v := 30) hx hb dX6_rows_251 (by decide) ?_
        refine lv_iload hx hb dX6_rows_253 (lv_at hl 2 rfl) ?_
        refine lv_iadd hx hb dX6_rows_255 ?_
        obtain ⟨c256, hf⟩ := ck_t hf
        refine va_zald (f := mm 37) hx hb hK hP 35 1 (gX6_35 _ _ _ _) rfl (inb_in c256) dX6_rows_256 ?_
        obtain ⟨c257, hf⟩ := ck_t hf
        refine st_z hx hb hK hP hD hS 9 1 (sX6_9 _ _ _ _ _ _) (gX6_9 _ _ _ _) rfl c257 dX6_rows_257 (fun H locs hP hD hS => ?_)
        exact B258 _ _ _ k216 hk216 hf H locs hP hD hS ls (lv_sub hl [0, 1, 2] rfl)
  have B213 : ∀ (mm : St) (x1 : Int32), fX6_rows_J213 mm x1 = some res → Bk p l e ({ frames := 1, cells := 0, slots := 0, locals := 23 }) s m args below meth c Q A0 D 5 0 0 (wX6 cI cZ A mm) [(0, .ref (A 0)), (1, .int x1)] 213 [] := by
    intro mm x1 hf
    unfold fX6_rows_J213 at hf
    intro H locs hP hD hS ls hl
    refine lv_iconst (v := 0) hx hb dX6_rows_213 (by decide) ?_
    refine lv_istore (lv' := [(4, .int 0), (0, .ref (A 0)), (1, .int x1)]) hx hb dX6_rows_214 hl (by decide) rfl (fun ls hl => ?_)
    exact B216 _ _ _ hf H locs hP hD hS ls (lv_sub hl [1, 2, 0] rfl)
  have B10 : ∀ (x1 : Int32) (mm : St) (x3 : Int32) (x4 : Int32), fX6_rows_L10 x1 mm x3 x4 = some res → Bk p l e ({ frames := 1, cells := 0, slots := 0, locals := 23 }) s m args below meth c Q A0 D 5 0 0 (wX6 cI cZ A mm) [(0, .ref (A 0)), (1, .int x1), (3, .int x3), (4, .int x4)] 10 [] := by
    intro x1 mm x3 x4 hf
    refine loop_ind (step := (fun k a => fX6_rows_S10 k x1 (a.1) (a.2.1) (a.2.2))) (fun a => Bk p l e ({ frames := 1, cells := 0, slots := 0, locals := 23 }) s m args below meth c Q A0 D 5 0 0 (wX6 cI cZ A (a.1)) [(0, .ref (A 0)), (1, .int x1), (3, .int (a.2.1)), (4, .int (a.2.2))] 10 []) ?_ _ _ hf
    clear hf
    intro k10 hk10 a hf
    obtain ⟨mm_, x3_, x4_⟩ := a
    clear mm x3 x4
    obtain ⟨mm, e_⟩ : ∃ z, z = mm_ := ⟨_, rfl⟩
    subst e_
    obtain ⟨x3, e_⟩ : ∃ z, z = x3_ := ⟨_, rfl⟩
    subst e_
    obtain ⟨x4, e_⟩ : ∃ z, z = x4_ := ⟨_, rfl⟩
    subst e_
    have hf : fX6_rows_S10 k10 x1 mm x3 x4 = some res := hf
    show Bk p l e ({ frames := 1, cells := 0, slots := 0, locals := 23 }) s m args below meth c Q A0 D 5 0 0 (wX6 cI cZ A mm) [(0, .ref (A 0)), (1, .int x1), (3, .int x3), (4, .int x4)] 10 []
    unfold fX6_rows_S10 at hf
    intro H locs hP hD hS ls hl
    refine lv_iload hx hb dX6_rows_10 (lv_at hl 3 rfl) ?_
    refine lv_bipush (v := 13) hx hb dX6_rows_12 (by decide) ?_
    refine lv_icmp_ge (tgt := 213) hx hb dX6_rows_14 (by decide) (fun c14 => ?_) (fun c14 => ?_)
    · have hf := if_t c14 hf
      exact B213 _ _ hf H locs hP hD hS ls (lv_sub hl [0, 1] rfl)
    · have hf := if_f c14 hf
      refine lv_iload hx hb dX6_rows_17 (lv_at hl 3 rfl) ?_
      refine lv_if_ne (tgt := 29) hx hb dX6_rows_19 (by decide) (fun c19 => ?_) (fun c19 => ?_)
      · have hf := if_f c19 hf
        refine lv_iload hx hb dX6_rows_29 (lv_at hl 3 rfl) ?_
        refine lv_iconst (v := 1) hx hb dX6_rows_31 (by decide) ?_
        refine lv_icmp_ne (tgt := 42) hx hb dX6_rows_32 (by decide) (fun c32 => ?_) (fun c32 => ?_)
        · have hf := if_f c32 hf
          refine lv_iload hx hb dX6_rows_42 (lv_at hl 3 rfl) ?_
          refine lv_iconst (v := 2) hx hb dX6_rows_44 (by decide) ?_
          refine lv_icmp_ne (tgt := 55) hx hb dX6_rows_45 (by decide) (fun c45 => ?_) (fun c45 => ?_)
          · have hf := if_f c45 hf
            refine lv_iload hx hb dX6_rows_55 (lv_at hl 3 rfl) ?_
            refine lv_iconst (v := 3) hx hb dX6_rows_57 (by decide) ?_
            refine lv_icmp_ne (tgt := 68) hx hb dX6_rows_58 (by decide) (fun c58 => ?_) (fun c58 => ?_)
            · have hf := if_f c58 hf
              refine lv_iload hx hb dX6_rows_68 (lv_at hl 3 rfl) ?_
              refine lv_iconst (v := 4) hx hb dX6_rows_70 (by decide) ?_
              refine lv_icmp_ne (tgt := 81) hx hb dX6_rows_71 (by decide) (fun c71 => ?_) (fun c71 => ?_)
              · have hf := if_f c71 hf
                refine lv_iload hx hb dX6_rows_81 (lv_at hl 3 rfl) ?_
                refine lv_iconst (v := 5) hx hb dX6_rows_83 (by decide) ?_
                refine lv_icmp_ne (tgt := 94) hx hb dX6_rows_84 (by decide) (fun c84 => ?_) (fun c84 => ?_)
                · have hf := if_f c84 hf
                  refine lv_iload hx hb dX6_rows_94 (lv_at hl 3 rfl) ?_
                  refine lv_bipush (v := 6) hx hb dX6_rows_96 (by decide) ?_
                  refine lv_icmp_ne (tgt := 108) hx hb dX6_rows_98 (by decide) (fun c98 => ?_) (fun c98 => ?_)
                  · have hf := if_f c98 hf
                    refine lv_iload hx hb dX6_rows_108 (lv_at hl 3 rfl) ?_
                    refine lv_bipush (v := 7) hx hb dX6_rows_110 (by decide) ?_
                    refine lv_icmp_ne (tgt := 122) hx hb dX6_rows_112 (by decide) (fun c112 => ?_) (fun c112 => ?_)
                    · have hf := if_f c112 hf
                      refine lv_iload hx hb dX6_rows_122 (lv_at hl 3 rfl) ?_
                      refine lv_bipush (v := 8) hx hb dX6_rows_124 (by decide) ?_
                      refine lv_icmp_ne (tgt := 136) hx hb dX6_rows_126 (by decide) (fun c126 => ?_) (fun c126 => ?_)
                      · have hf := if_f c126 hf
                        refine lv_iload hx hb dX6_rows_136 (lv_at hl 3 rfl) ?_
                        refine lv_bipush (v := 9) hx hb dX6_rows_138 (by decide) ?_
                        refine lv_icmp_ne (tgt := 150) hx hb dX6_rows_140 (by decide) (fun c140 => ?_) (fun c140 => ?_)
                        · have hf := if_f c140 hf
                          refine lv_iload hx hb dX6_rows_150 (lv_at hl 3 rfl) ?_
                          refine lv_bipush (v := 10) hx hb dX6_rows_152 (by decide) ?_
                          refine lv_icmp_ne (tgt := 164) hx hb dX6_rows_154 (by decide) (fun c154 => ?_) (fun c154 => ?_)
                          · have hf := if_f c154 hf
                            refine lv_iload hx hb dX6_rows_164 (lv_at hl 3 rfl) ?_
                            refine lv_bipush (v := 11) hx hb dX6_rows_166 (by decide) ?_
                            refine lv_icmp_ne (tgt := 178) hx hb dX6_rows_168 (by decide) (fun c168 => ?_) (fun c168 => ?_)
                            · have hf := if_f c168 hf
                              refine lv_aload_n hx hb dX6_rows_178 rfl (lv_at hl 0 rfl) ?_
                              refine ld_f S iX6 hK hP 0 28 (.ref (A 27)) (gX6_0 _ _ _ _) rfl (by decide) k93 rfl rfl dX6_rows_179 ?_
                              refine lv_astore_n (lv' := [(2, .ref (A 27)), (0, .ref (A 0)), (1, .int x1), (3, .int x3), (4, .int x4)]) hx hb dX6_rows_182 rfl hl (by decide) rfl (fun ls hl => ?_)
                              refine lv_iload_n hx hb dX6_rows_183 rfl (lv_at hl 2 rfl) ?_
                              refine lv_if_eq (tgt := 196) hx hb dX6_rows_184 (by decide) (fun c184 => ?_) (fun c184 => ?_)
                              · have hf := if_t c184 hf
                                refine lv_aload_n hx hb dX6_rows_196 rfl (lv_at hl 1 rfl) ?_
                                refine lv_iload_n hx hb dX6_rows_197 rfl (lv_at hl 3 rfl) ?_
                                refine lv_aload_n hx hb dX6_rows_198 rfl (lv_at hl 0 rfl) ?_
                                obtain ⟨q199, h199, hf⟩ := bd_t hf
                                refine cl_v (va_runV (As := [.int x3, .ref (A 27)]) (rest := []) S (mX6_keeps_k27 l D cI cZ A mm x3 H.size q199 h199) (cwV 2 hts gX6_rows_X6_keeps rfl rfl rfl (by decide +kernel) ⟨Nat.le_of_ble_eq_true rfl, Nat.le_of_ble_eq_true rfl⟩) (mP_V (ci := 6) (Cut.self _ []) hP hD hK hG rfl (gX6_0 _ _ _ _)) rfl rfl hl.1 rfl (lv_room (Nat.le_of_ble_eq_true rfl)) dX6_rows_199 ⟨Nat.le_refl _, Nat.le_refl _⟩) (Cut.self _ _) hP hD hS hA (fun H locs hP hD hS => ?_)
                                refine lv_iload_n hx hb dX6_rows_202 rfl (lv_at hl 3 rfl) ?_
                                refine lv_aload_n hx hb dX6_rows_203 rfl (lv_at hl 0 rfl) ?_
                                refine va_alen (v := 48) hx hb hK hP 27 0 (gX6_27 _ _ _ _) rfl rfl dX6_rows_204 ?_
                                refine lv_iadd hx hb dX6_rows_205 ?_
                                refine lv_istore_n (lv' := [(3, .int (x3 + 48)), (2, .ref (A 27)), (0, .ref (A 0)), (1, .int x1), (4, .int x4)]) hx hb dX6_rows_206 rfl hl (by decide) rfl (fun ls hl => ?_)
                                refine lv_iinc (v := x4 + 1) (lv' := [(4, .int (x4 + 1)), (3, .int (x3 + 48)), (2, .ref (A 27)), (0, .ref (A 0)), (1, .int x1)]) hx hb dX6_rows_207 hl (k := 4) rfl rfl (by decide) rfl (fun ls hl => ?_)
                                refine lv_goto (tgt := 10) hx hb dX6_rows_210 (by decide) ?_
                                exact hk10 _ hf H locs hP hD hS ls (lv_sub hl [3, 4, 1, 0] rfl)
                              · have hf := if_f c184 hf
                                refine lv_aload_n hx hb dX6_rows_187 rfl (lv_at hl 1 rfl) ?_
                                refine lv_iload_n hx hb dX6_rows_188 rfl (lv_at hl 3 rfl) ?_
                                refine lv_aload_n hx hb dX6_rows_189 rfl (lv_at hl 0 rfl) ?_
                                obtain ⟨q190, h190, hf⟩ := bd_t hf
                                refine cl_v (va_runV (As := [.int x3, .ref (A 27)]) (rest := []) S (mX6_back_k27 l D cI cZ A mm x3 H.size q190 h190) (cwV 2 hts gX6_rows_X6_back rfl rfl rfl (by decide +kernel) ⟨Nat.le_of_ble_eq_true rfl, Nat.le_of_ble_eq_true rfl⟩) (mP_V (ci := 6) (Cut.self _ []) hP hD hK hG rfl (gX6_0 _ _ _ _)) rfl rfl hl.1 rfl (lv_room (Nat.le_of_ble_eq_true rfl)) dX6_rows_190 ⟨Nat.le_refl _, Nat.le_refl _⟩) (Cut.self _ _) hP hD hS hA (fun H locs hP hD hS => ?_)
                                refine lv_goto (tgt := 202) hx hb dX6_rows_193 (by decide) ?_
                                refine lv_iload_n hx hb dX6_rows_202 rfl (lv_at hl 3 rfl) ?_
                                refine lv_aload_n hx hb dX6_rows_203 rfl (lv_at hl 0 rfl) ?_
                                refine va_alen (v := 48) hx hb hK hP 27 0 (gX6_27 _ _ _ _) rfl rfl dX6_rows_204 ?_
                                refine lv_iadd hx hb dX6_rows_205 ?_
                                refine lv_istore_n (lv' := [(3, .int (x3 + 48)), (2, .ref (A 27)), (0, .ref (A 0)), (1, .int x1), (4, .int x4)]) hx hb dX6_rows_206 rfl hl (by decide) rfl (fun ls hl => ?_)
                                refine lv_iinc (v := x4 + 1) (lv' := [(4, .int (x4 + 1)), (3, .int (x3 + 48)), (2, .ref (A 27)), (0, .ref (A 0)), (1, .int x1)]) hx hb dX6_rows_207 hl (k := 4) rfl rfl (by decide) rfl (fun ls hl => ?_)
                                refine lv_goto (tgt := 10) hx hb dX6_rows_210 (by decide) ?_
                                exact hk10 _ hf H locs hP hD hS ls (lv_sub hl [3, 4, 1, 0] rfl)
                            · have hf := if_t c168 hf
                              refine lv_aload_n hx hb dX6_rows_171 rfl (lv_at hl 0 rfl) ?_
                              refine ld_f S iX6 hK hP 0 27 (.ref (A 26)) (gX6_0 _ _ _ _) rfl (by decide) k90 rfl rfl dX6_rows_172 ?_
                              refine lv_goto (tgt := 182) hx hb dX6_rows_175 (by decide) ?_
                              refine lv_astore_n (lv' := [(2, .ref (A 26)), (0, .ref (A 0)), (1, .int x1), (3, .int x3), (4, .int x4)]) hx hb dX6_rows_182 rfl hl (by decide) rfl (fun ls hl => ?_)
                              refine lv_iload_n hx hb dX6_rows_183 rfl (lv_at hl 2 rfl) ?_
                              refine lv_if_eq (tgt := 196) hx hb dX6_rows_184 (by decide) (fun c184 => ?_) (fun c184 => ?_)
                              · have hf := if_t c184 hf
                                refine lv_aload_n hx hb dX6_rows_196 rfl (lv_at hl 1 rfl) ?_
                                refine lv_iload_n hx hb dX6_rows_197 rfl (lv_at hl 3 rfl) ?_
                                refine lv_aload_n hx hb dX6_rows_198 rfl (lv_at hl 0 rfl) ?_
                                obtain ⟨q199, h199, hf⟩ := bd_t hf
                                refine cl_v (va_runV (As := [.int x3, .ref (A 26)]) (rest := []) S (mX6_keeps_k26 l D cI cZ A mm x3 H.size q199 h199) (cwV 2 hts gX6_rows_X6_keeps rfl rfl rfl (by decide +kernel) ⟨Nat.le_of_ble_eq_true rfl, Nat.le_of_ble_eq_true rfl⟩) (mP_V (ci := 6) (Cut.self _ []) hP hD hK hG rfl (gX6_0 _ _ _ _)) rfl rfl hl.1 rfl (lv_room (Nat.le_of_ble_eq_true rfl)) dX6_rows_199 ⟨Nat.le_refl _, Nat.le_refl _⟩) (Cut.self _ _) hP hD hS hA (fun H locs hP hD hS => ?_)
                                refine lv_iload_n hx hb dX6_rows_202 rfl (lv_at hl 3 rfl) ?_
                                refine lv_aload_n hx hb dX6_rows_203 rfl (lv_at hl 0 rfl) ?_
                                refine va_alen (v := 48) hx hb hK hP 26 0 (gX6_26 _ _ _ _) rfl rfl dX6_rows_204 ?_
                                refine lv_iadd hx hb dX6_rows_205 ?_
                                refine lv_istore_n (lv' := [(3, .int (x3 + 48)), (2, .ref (A 26)), (0, .ref (A 0)), (1, .int x1), (4, .int x4)]) hx hb dX6_rows_206 rfl hl (by decide) rfl (fun ls hl => ?_)
                                refine lv_iinc (v := x4 + 1) (lv' := [(4, .int (x4 + 1)), (3, .int (x3 + 48)), (2, .ref (A 26)), (0, .ref (A 0)), (1, .int x1)]) hx hb dX6_rows_207 hl (k := 4) rfl rfl (by decide) rfl (fun ls hl => ?_)
                                refine lv_goto (tgt := 10) hx hb dX6_rows_210 (by decide) ?_
                                exact hk10 _ hf H locs hP hD hS ls (lv_sub hl [3, 4, 1, 0] rfl)
                              · have hf := if_f c184 hf
                                refine lv_aload_n hx hb dX6_rows_187 rfl (lv_at hl 1 rfl) ?_
                                refine lv_iload_n hx hb dX6_rows_188 rfl (lv_at hl 3 rfl) ?_
                                refine lv_aload_n hx hb dX6_rows_189 rfl (lv_at hl 0 rfl) ?_
                                obtain ⟨q190, h190, hf⟩ := bd_t hf
                                refine cl_v (va_runV (As := [.int x3, .ref (A 26)]) (rest := []) S (mX6_back_k26 l D cI cZ A mm x3 H.size q190 h190) (cwV 2 hts gX6_rows_X6_back rfl rfl rfl (by decide +kernel) ⟨Nat.le_of_ble_eq_true rfl, Nat.le_of_ble_eq_true rfl⟩) (mP_V (ci := 6) (Cut.self _ []) hP hD hK hG rfl (gX6_0 _ _ _ _)) rfl rfl hl.1 rfl (lv_room (Nat.le_of_ble_eq_true rfl)) dX6_rows_190 ⟨Nat.le_refl _, Nat.le_refl _⟩) (Cut.self _ _) hP hD hS hA (fun H locs hP hD hS => ?_)
                                refine lv_goto (tgt := 202) hx hb dX6_rows_193 (by decide) ?_
                                refine lv_iload_n hx hb dX6_rows_202 rfl (lv_at hl 3 rfl) ?_
                                refine lv_aload_n hx hb dX6_rows_203 rfl (lv_at hl 0 rfl) ?_
                                refine va_alen (v := 48) hx hb hK hP 26 0 (gX6_26 _ _ _ _) rfl rfl dX6_rows_204 ?_
                                refine lv_iadd hx hb dX6_rows_205 ?_
                                refine lv_istore_n (lv' := [(3, .int (x3 + 48)), (2, .ref (A 26)), (0, .ref (A 0)), (1, .int x1), (4, .int x4)]) hx hb dX6_rows_206 rfl hl (by decide) rfl (fun ls hl => ?_)
                                refine lv_iinc (v := x4 + 1) (lv' := [(4, .int (x4 + 1)), (3, .int (x3 + 48)), (2, .ref (A 26)), (0, .ref (A 0)), (1, .int x1)]) hx hb dX6_rows_207 hl (k := 4) rfl rfl (by decide) rfl (fun ls hl => ?_)
                                refine lv_goto (tgt := 10) hx hb dX6_rows_210 (by decide) ?_
                                exact hk10 _ hf H locs hP hD hS ls (lv_sub hl [3, 4, 1, 0] rfl)
                          · have hf := if_t c154 hf
                            refine lv_aload_n hx hb dX6_rows_157 rfl (lv_at hl 0 rfl) ?_
                            refine ld_f S iX6 hK hP 0 26 (.ref (A 25)) (gX6_0 _ _ _ _) rfl (by decide) k87 rfl rfl dX6_rows_158 ?_
                            refine lv_goto (tgt := 182) hx hb dX6_rows_161 (by decide) ?_
                            refine lv_astore_n (lv' := [(2, .ref (A 25)), (0, .ref (A 0)), (1, .int x1), (3, .int x3), (4, .int x4)]) hx hb dX6_rows_182 rfl hl (by decide) rfl (fun ls hl => ?_)
                            refine lv_iload_n hx hb dX6_rows_183 rfl (lv_at hl 2 rfl) ?_
                            refine lv_if_eq (tgt := 196) hx hb dX6_rows_184 (by decide) (fun c184 => ?_) (fun c184 => ?_)
                            · have hf := if_t c184 hf
                              refine lv_aload_n hx hb dX6_rows_196 rfl (lv_at hl 1 rfl) ?_
                              refine lv_iload_n hx hb dX6_rows_197 rfl (lv_at hl 3 rfl) ?_
                              refine lv_aload_n hx hb dX6_rows_198 rfl (lv_at hl 0 rfl) ?_
                              obtain ⟨q199, h199, hf⟩ := bd_t hf
                              refine cl_v (va_runV (As := [.int x3, .ref (A 25)]) (rest := []) S (mX6_keeps_k25 l D cI cZ A mm x3 H.size q199 h199) (cwV 2 hts gX6_rows_X6_keeps rfl rfl rfl (by decide +kernel) ⟨Nat.le_of_ble_eq_true rfl, Nat.le_of_ble_eq_true rfl⟩) (mP_V (ci := 6) (Cut.self _ []) hP hD hK hG rfl (gX6_0 _ _ _ _)) rfl rfl hl.1 rfl (lv_room (Nat.le_of_ble_eq_true rfl)) dX6_rows_199 ⟨Nat.le_refl _, Nat.le_refl _⟩) (Cut.self _ _) hP hD hS hA (fun H locs hP hD hS => ?_)
                              refine lv_iload_n hx hb dX6_rows_202 rfl (lv_at hl 3 rfl) ?_
                              refine lv_aload_n hx hb dX6_rows_203 rfl (lv_at hl 0 rfl) ?_
                              refine va_alen (v := 48) hx hb hK hP 25 0 (gX6_25 _ _ _ _) rfl rfl dX6_rows_204 ?_
                              refine lv_iadd hx hb dX6_rows_205 ?_
                              refine lv_istore_n (lv' := [(3, .int (x3 + 48)), (2, .ref (A 25)), (0, .ref (A 0)), (1, .int x1), (4, .int x4)]) hx hb dX6_rows_206 rfl hl (by decide) rfl (fun ls hl => ?_)
                              refine lv_iinc (v := x4 + 1) (lv' := [(4, .int (x4 + 1)), (3, .int (x3 + 48)), (2, .ref (A 25)), (0, .ref (A 0)), (1, .int x1)]) hx hb dX6_rows_207 hl (k := 4) rfl rfl (by decide) rfl (fun ls hl => ?_)
                              refine lv_goto (tgt := 10) hx hb dX6_rows_210 (by decide) ?_
                              exact hk10 _ hf H locs hP hD hS ls (lv_sub hl [3, 4, 1, 0] rfl)
                            · have hf := if_f c184 hf
                              refine lv_aload_n hx hb dX6_rows_187 rfl (lv_at hl 1 rfl) ?_
                              refine lv_iload_n hx hb dX6_rows_188 rfl (lv_at hl 3 rfl) ?_
                              refine lv_aload_n hx hb dX6_rows_189 rfl (lv_at hl 0 rfl) ?_
                              obtain ⟨q190, h190, hf⟩ := bd_t hf
                              refine cl_v (va_runV (As := [.int x3, .ref (A 25)]) (rest := []) S (mX6_back_k25 l D cI cZ A mm x3 H.size q190 h190) (cwV 2 hts gX6_rows_X6_back rfl rfl rfl (by decide +kernel) ⟨Nat.le_of_ble_eq_true rfl, Nat.le_of_ble_eq_true rfl⟩) (mP_V (ci := 6) (Cut.self _ []) hP hD hK hG rfl (gX6_0 _ _ _ _)) rfl rfl hl.1 rfl (lv_room (Nat.le_of_ble_eq_true rfl)) dX6_rows_190 ⟨Nat.le_refl _, Nat.le_refl _⟩) (Cut.self _ _) hP hD hS hA (fun H locs hP hD hS => ?_)
                              refine lv_goto (tgt := 202) hx hb dX6_rows_193 (by decide) ?_
                              refine lv_iload_n hx hb dX6_rows_202 rfl (lv_at hl 3 rfl) ?_
                              refine lv_aload_n hx hb dX6_rows_203 rfl (lv_at hl 0 rfl) ?_
                              refine va_alen (v := 48) hx hb hK hP 25 0 (gX6_25 _ _ _ _) rfl rfl dX6_rows_204 ?_
                              refine lv_iadd hx hb dX6_rows_205 ?_
                              refine lv_istore_n (lv' := [(3, .int (x3 + 48)), (2, .ref (A 25)), (0, .ref (A 0)), (1, .int x1), (4, .int x4)]) hx hb dX6_rows_206 rfl hl (by decide) rfl (fun ls hl => ?_)
                              refine lv_iinc (v := x4 + 1) (lv' := [(4, .int (x4 + 1)), (3, .int (x3 + 48)), (2, .ref (A 25)), (0, .ref (A 0)), (1, .int x1)]) hx hb dX6_rows_207 hl (k := 4) rfl rfl (by decide) rfl (fun ls hl => ?_)
                              refine lv_goto (tgt := 10) hx hb dX6_rows_210 (by decide) ?_
                              exact hk10 _ hf H locs hP hD hS ls (lv_sub hl [3, 4, 1, 0] rfl)
                        · have hf := if_t c140 hf
                          refine lv_aload_n hx hb dX6_rows_143 rfl (lv_at hl 0 rfl) ?_
                          refine ld_f S iX6 hK hP 0 25 (.ref (A 24)) (gX6_0 _ _ _ _) rfl (by decide) k84 rfl rfl dX6_rows_144 ?_
                          refine lv_goto (tgt := 182) hx hb dX6_rows_147 (by decide) ?_
                          refine lv_astore_n (lv' := [(2, .ref (A 24)), (0, .ref (A 0)), (1, .int x1), (3, .int x3), (4, .int x4)]) hx hb dX6_rows_182 rfl hl (by decide) rfl (fun ls hl => ?_)
                          refine lv_iload_n hx hb dX6_rows_183 rfl (lv_at hl 2 rfl) ?_
                          refine lv_if_eq (tgt := 196) hx hb dX6_rows_184 (by decide) (fun c184 => ?_) (fun c184 => ?_)
                          · have hf := if_t c184 hf
                            refine lv_aload_n hx hb dX6_rows_196 rfl (lv_at hl 1 rfl) ?_
                            refine lv_iload_n hx hb dX6_rows_197 rfl (lv_at hl 3 rfl) ?_
                            refine lv_aload_n hx hb dX6_rows_198 rfl (lv_at hl 0 rfl) ?_
                            obtain ⟨q199, h199, hf⟩ := bd_t hf
                            refine cl_v (va_runV (As := [.int x3, .ref (A 24)]) (rest := []) S (mX6_keeps_k24 l D cI cZ A mm x3 H.size q199 h199) (cwV 2 hts gX6_rows_X6_keeps rfl rfl rfl (by decide +kernel) ⟨Nat.le_of_ble_eq_true rfl, Nat.le_of_ble_eq_true rfl⟩) (mP_V (ci := 6) (Cut.self _ []) hP hD hK hG rfl (gX6_0 _ _ _ _)) rfl rfl hl.1 rfl (lv_room (Nat.le_of_ble_eq_true rfl)) dX6_rows_199 ⟨Nat.le_refl _, Nat.le_refl _⟩) (Cut.self _ _) hP hD hS hA (fun H locs hP hD hS => ?_)
                            refine lv_iload_n hx hb dX6_rows_202 rfl (lv_at hl 3 rfl) ?_
                            refine lv_aload_n hx hb dX6_rows_203 rfl (lv_at hl 0 rfl) ?_
                            refine va_alen (v := 48) hx hb hK hP 24 0 (gX6_24 _ _ _ _) rfl rfl dX6_rows_204 ?_
                            refine lv_iadd hx hb dX6_rows_205 ?_
                            refine lv_istore_n (lv' := [(3, .int (x3 + 48)), (2, .ref (A 24)), (0, .ref (A 0)), (1, .int x1), (4, .int x4)]) hx hb dX6_rows_206 rfl hl (by decide) rfl (fun ls hl => ?_)
                            refine lv_iinc (v := x4 + 1) (lv' := [(4, .int (x4 + 1)), (3, .int (x3 + 48)), (2, .ref (A 24)), (0, .ref (A 0)), (1, .int x1)]) hx hb dX6_rows_207 hl (k := 4) rfl rfl (by decide) rfl (fun ls hl => ?_)
                            refine lv_goto (tgt := 10) hx hb dX6_rows_210 (by decide) ?_
                            exact hk10 _ hf H locs hP hD hS ls (lv_sub hl [3, 4, 1, 0] rfl)
                          · have hf := if_f c184 hf
                            refine lv_aload_n hx hb dX6_rows_187 rfl (lv_at hl 1 rfl) ?_
                            refine lv_iload_n hx hb dX6_rows_188 rfl (lv_at hl 3 rfl) ?_
                            refine lv_aload_n hx hb dX6_rows_189 rfl (lv_at hl 0 rfl) ?_
                            obtain ⟨q190, h190, hf⟩ := bd_t hf
                            refine cl_v (va_runV (As := [.int x3, .ref (A 24)]) (rest := []) S (mX6_back_k24 l D cI cZ A mm x3 H.size q190 h190) (cwV 2 hts gX6_rows_X6_back rfl rfl rfl (by decide +kernel) ⟨Nat.le_of_ble_eq_true rfl, Nat.le_of_ble_eq_true rfl⟩) (mP_V (ci := 6) (Cut.self _ []) hP hD hK hG rfl (gX6_0 _ _ _ _)) rfl rfl hl.1 rfl (lv_room (Nat.le_of_ble_eq_true rfl)) dX6_rows_190 ⟨Nat.le_refl _, Nat.le_refl _⟩) (Cut.self _ _) hP hD hS hA (fun H locs hP hD hS => ?_)
                            refine lv_goto (tgt := 202) hx hb dX6_rows_193 (by decide) ?_
                            refine lv_iload_n hx hb dX6_rows_202 rfl (lv_at hl 3 rfl) ?_
                            refine lv_aload_n hx hb dX6_rows_203 rfl (lv_at hl 0 rfl) ?_
                            refine va_alen (v := 48) hx hb hK hP 24 0 (gX6_24 _ _ _ _) rfl rfl dX6_rows_204 ?_
                            refine lv_iadd hx hb dX6_rows_205 ?_
                            refine lv_istore_n (lv' := [(3, .int (x3 + 48)), (2, .ref (A 24)), (0, .ref (A 0)), (1, .int x1), (4, .int x4)]) hx hb dX6_rows_206 rfl hl (by decide) rfl (fun ls hl => ?_)
                            refine lv_iinc (v := x4 + 1) (lv' := [(4, .int (x4 + 1)), (3, .int (x3 + 48)), (2, .ref (A 24)), (0, .ref (A 0)), (1, .int x1)]) hx hb dX6_rows_207 hl (k := 4) rfl rfl (by decide) rfl (fun ls hl => ?_)
                            refine lv_goto (tgt := 10) hx hb dX6_rows_210 (by decide) ?_
                            exact hk10 _ hf H locs hP hD hS ls (lv_sub hl [3, 4, 1, 0] rfl)
                      · have hf := if_t c126 hf
                        refine lv_aload_n hx hb dX6_rows_129 rfl (lv_at hl 0 rfl) ?_
                        refine ld_f S iX6 hK hP 0 24 (.ref (A 23)) (gX6_0 _ _ _ _) rfl (by decide) k81 rfl rfl dX6_rows_130 ?_
                        refine lv_goto (tgt := 182) hx hb dX6_rows_133 (by decide) ?_
                        refine lv_astore_n (lv' := [(2, .ref (A 23)), (0, .ref (A 0)), (1, .int x1), (3, .int x3), (4, .int x4)]) hx hb dX6_rows_182 rfl hl (by decide) rfl (fun ls hl => ?_)
                        refine lv_iload_n hx hb dX6_rows_183 rfl (lv_at hl 2 rfl) ?_
                        refine lv_if_eq (tgt := 196) hx hb dX6_rows_184 (by decide) (fun c184 => ?_) (fun c184 => ?_)
                        · have hf := if_t c184 hf
                          refine lv_aload_n hx hb dX6_rows_196 rfl (lv_at hl 1 rfl) ?_
                          refine lv_iload_n hx hb dX6_rows_197 rfl (lv_at hl 3 rfl) ?_
                          refine lv_aload_n hx hb dX6_rows_198 rfl (lv_at hl 0 rfl) ?_
                          obtain ⟨q199, h199, hf⟩ := bd_t hf
                          refine cl_v (va_runV (As := [.int x3, .ref (A 23)]) (rest := []) S (mX6_keeps_k23 l D cI cZ A mm x3 H.size q199 h199) (cwV 2 hts gX6_rows_X6_keeps rfl rfl rfl (by decide +kernel) ⟨Nat.le_of_ble_eq_true rfl, Nat.le_of_ble_eq_true rfl⟩) (mP_V (ci := 6) (Cut.self _ []) hP hD hK hG rfl (gX6_0 _ _ _ _)) rfl rfl hl.1 rfl (lv_room (Nat.le_of_ble_eq_true rfl)) dX6_rows_199 ⟨Nat.le_refl _, Nat.le_refl _⟩) (Cut.self _ _) hP hD hS hA (fun H locs hP hD hS => ?_)
                          refine lv_iload_n hx hb dX6_rows_202 rfl (lv_at hl 3 rfl) ?_
                          refine lv_aload_n hx hb dX6_rows_203 rfl (lv_at hl 0 rfl) ?_
                          refine va_alen (v := 6) hx hb hK hP 23 0 (gX6_23 _ _ _ _) rfl rfl dX6_rows_204 ?_
                          refine lv_iadd hx hb dX6_rows_205 ?_
                          refine lv_istore_n (lv' := [(3, .int (x3 + 6)), (2, .ref (A 23)), (0, .ref (A 0)), (1, .int x1), (4, .int x4)]) hx hb dX6_rows_206 rfl hl (by decide) rfl (fun ls hl => ?_)
                          refine lv_iinc (v := x4 + 1) (lv' := [(4, .int (x4 + 1)), (3, .int (x3 + 6)), (2, .ref (A 23)), (0, .ref (A 0)), (1, .int x1)]) hx hb dX6_rows_207 hl (k := 4) rfl rfl (by decide) rfl (fun ls hl => ?_)
                          refine lv_goto (tgt := 10) hx hb dX6_rows_210 (by decide) ?_
                          exact hk10 _ hf H locs hP hD hS ls (lv_sub hl [3, 4, 1, 0] rfl)
                        · have hf := if_f c184 hf
                          refine lv_aload_n hx hb dX6_rows_187 rfl (lv_at hl 1 rfl) ?_
                          refine lv_iload_n hx hb dX6_rows_188 rfl (lv_at hl 3 rfl) ?_
                          refine lv_aload_n hx hb dX6_rows_189 rfl (lv_at hl 0 rfl) ?_
                          obtain ⟨q190, h190, hf⟩ := bd_t hf
                          refine cl_v (va_runV (As := [.int x3, .ref (A 23)]) (rest := []) S (mX6_back_k23 l D cI cZ A mm x3 H.size q190 h190) (cwV 2 hts gX6_rows_X6_back rfl rfl rfl (by decide +kernel) ⟨Nat.le_of_ble_eq_true rfl, Nat.le_of_ble_eq_true rfl⟩) (mP_V (ci := 6) (Cut.self _ []) hP hD hK hG rfl (gX6_0 _ _ _ _)) rfl rfl hl.1 rfl (lv_room (Nat.le_of_ble_eq_true rfl)) dX6_rows_190 ⟨Nat.le_refl _, Nat.le_refl _⟩) (Cut.self _ _) hP hD hS hA (fun H locs hP hD hS => ?_)
                          refine lv_goto (tgt := 202) hx hb dX6_rows_193 (by decide) ?_
                          refine lv_iload_n hx hb dX6_rows_202 rfl (lv_at hl 3 rfl) ?_
                          refine lv_aload_n hx hb dX6_rows_203 rfl (lv_at hl 0 rfl) ?_
                          refine va_alen (v := 6) hx hb hK hP 23 0 (gX6_23 _ _ _ _) rfl rfl dX6_rows_204 ?_
                          refine lv_iadd hx hb dX6_rows_205 ?_
                          refine lv_istore_n (lv' := [(3, .int (x3 + 6)), (2, .ref (A 23)), (0, .ref (A 0)), (1, .int x1), (4, .int x4)]) hx hb dX6_rows_206 rfl hl (by decide) rfl (fun ls hl => ?_)
                          refine lv_iinc (v := x4 + 1) (lv' := [(4, .int (x4 + 1)), (3, .int (x3 + 6)), (2, .ref (A 23)), (0, .ref (A 0)), (1, .int x1)]) hx hb dX6_rows_207 hl (k := 4) rfl rfl (by decide) rfl (fun ls hl => ?_)
                          refine lv_goto (tgt := 10) hx hb dX6_rows_210 (by decide) ?_
                          exact hk10 _ hf H locs hP hD hS ls (lv_sub hl [3, 4, 1, 0] rfl)
                    · have hf := if_t c112 hf
                      refine lv_aload_n hx hb dX6_rows_115 rfl (lv_at hl 0 rfl) ?_
                      refine ld_f S iX6 hK hP 0 15 (.ref (A 14)) (gX6_0 _ _ _ _) rfl (by decide) k54 rfl rfl dX6_rows_116 ?_
                      refine lv_goto (tgt := 182) hx hb dX6_rows_119 (by decide) ?_
                      refine lv_astore_n (lv' := [(2, .ref (A 14)), (0, .ref (A 0)), (1, .int x1), (3, .int x3), (4, .int x4)]) hx hb dX6_rows_182 rfl hl (by decide) rfl (fun ls hl => ?_)
                      refine lv_iload_n hx hb dX6_rows_183 rfl (lv_at hl 2 rfl) ?_
                      refine lv_if_eq (tgt := 196) hx hb dX6_rows_184 (by decide) (fun c184 => ?_) (fun c184 => ?_)
                      · have hf := if_t c184 hf
                        refine lv_aload_n hx hb dX6_rows_196 rfl (lv_at hl 1 rfl) ?_
                        refine lv_iload_n hx hb dX6_rows_197 rfl (lv_at hl 3 rfl) ?_
                        refine lv_aload_n hx hb dX6_rows_198 rfl (lv_at hl 0 rfl) ?_
                        obtain ⟨q199, h199, hf⟩ := bd_t hf
                        refine cl_v (va_runV (As := [.int x3, .ref (A 14)]) (rest := []) S (mX6_keeps_k14 l D cI cZ A mm x3 H.size q199 h199) (cwV 2 hts gX6_rows_X6_keeps rfl rfl rfl (by decide +kernel) ⟨Nat.le_of_ble_eq_true rfl, Nat.le_of_ble_eq_true rfl⟩) (mP_V (ci := 6) (Cut.self _ []) hP hD hK hG rfl (gX6_0 _ _ _ _)) rfl rfl hl.1 rfl (lv_room (Nat.le_of_ble_eq_true rfl)) dX6_rows_199 ⟨Nat.le_refl _, Nat.le_refl _⟩) (Cut.self _ _) hP hD hS hA (fun H locs hP hD hS => ?_)
                        refine lv_iload_n hx hb dX6_rows_202 rfl (lv_at hl 3 rfl) ?_
                        refine lv_aload_n hx hb dX6_rows_203 rfl (lv_at hl 0 rfl) ?_
                        refine va_alen (v := 30) hx hb hK hP 14 0 (gX6_14 _ _ _ _) rfl rfl dX6_rows_204 ?_
                        refine lv_iadd hx hb dX6_rows_205 ?_
                        refine lv_istore_n (lv' := [(3, .int (x3 + 30)), (2, .ref (A 14)), (0, .ref (A 0)), (1, .int x1), (4, .int x4)]) hx hb dX6_rows_206 rfl hl (by decide) rfl (fun ls hl => ?_)
                        refine lv_iinc (v := x4 + 1) (lv' := [(4, .int (x4 + 1)), (3, .int (x3 + 30)), (2, .ref (A 14)), (0, .ref (A 0)), (1, .int x1)]) hx hb dX6_rows_207 hl (k := 4) rfl rfl (by decide) rfl (fun ls hl => ?_)
                        refine lv_goto (tgt := 10) hx hb dX6_rows_210 (by decide) ?_
                        exact hk10 _ hf H locs hP hD hS ls (lv_sub hl [3, 4, 1, 0] rfl)
                      · have hf := if_f c184 hf
                        refine lv_aload_n hx hb dX6_rows_187 rfl (lv_at hl 1 rfl) ?_
                        refine lv_iload_n hx hb dX6_rows_188 rfl (lv_at hl 3 rfl) ?_
                        refine lv_aload_n hx hb dX6_rows_189 rfl (lv_at hl 0 rfl) ?_
                        obtain ⟨q190, h190, hf⟩ := bd_t hf
                        refine cl_v (va_runV (As := [.int x3, .ref (A 14)]) (rest := []) S (mX6_back_k14 l D cI cZ A mm x3 H.size q190 h190) (cwV 2 hts gX6_rows_X6_back rfl rfl rfl (by decide +kernel) ⟨Nat.le_of_ble_eq_true rfl, Nat.le_of_ble_eq_true rfl⟩) (mP_V (ci := 6) (Cut.self _ []) hP hD hK hG rfl (gX6_0 _ _ _ _)) rfl rfl hl.1 rfl (lv_room (Nat.le_of_ble_eq_true rfl)) dX6_rows_190 ⟨Nat.le_refl _, Nat.le_refl _⟩) (Cut.self _ _) hP hD hS hA (fun H locs hP hD hS => ?_)
                        refine lv_goto (tgt := 202) hx hb dX6_rows_193 (by decide) ?_
                        refine lv_iload_n hx hb dX6_rows_202 rfl (lv_at hl 3 rfl) ?_
                        refine lv_aload_n hx hb dX6_rows_203 rfl (lv_at hl 0 rfl) ?_
                        refine va_alen (v := 30) hx hb hK hP 14 0 (gX6_14 _ _ _ _) rfl rfl dX6_rows_204 ?_
                        refine lv_iadd hx hb dX6_rows_205 ?_
                        refine lv_istore_n (lv' := [(3, .int (x3 + 30)), (2, .ref (A 14)), (0, .ref (A 0)), (1, .int x1), (4, .int x4)]) hx hb dX6_rows_206 rfl hl (by decide) rfl (fun ls hl => ?_)
                        refine lv_iinc (v := x4 + 1) (lv' := [(4, .int (x4 + 1)), (3, .int (x3 + 30)), (2, .ref (A 14)), (0, .ref (A 0)), (1, .int x1)]) hx hb dX6_rows_207 hl (k := 4) rfl rfl (by decide) rfl (fun ls hl => ?_)
                        refine lv_goto (tgt := 10) hx hb dX6_rows_210 (by decide) ?_
                        exact hk10 _ hf H locs hP hD hS ls (lv_sub hl [3, 4, 1, 0] rfl)
                  · have hf := if_t c98 hf
                    refine lv_aload_n hx hb dX6_rows_101 rfl (lv_at hl 0 rfl) ?_
                    refine ld_f S iX6 hK hP 0 11 (.ref (A 10)) (gX6_0 _ _ _ _) rfl (by decide) k42 rfl rfl dX6_rows_102 ?_
                    refine lv_goto (tgt := 182) hx hb dX6_rows_105 (by decide) ?_
                    refine lv_astore_n (lv' := [(2, .ref (A 10)), (0, .ref (A 0)), (1, .int x1), (3, .int x3), (4, .int x4)]) hx hb dX6_rows_182 rfl hl (by decide) rfl (fun ls hl => ?_)
                    refine lv_iload_n hx hb dX6_rows_183 rfl (lv_at hl 2 rfl) ?_
                    refine lv_if_eq (tgt := 196) hx hb dX6_rows_184 (by decide) (fun c184 => ?_) (fun c184 => ?_)
                    · have hf := if_t c184 hf
                      refine lv_aload_n hx hb dX6_rows_196 rfl (lv_at hl 1 rfl) ?_
                      refine lv_iload_n hx hb dX6_rows_197 rfl (lv_at hl 3 rfl) ?_
                      refine lv_aload_n hx hb dX6_rows_198 rfl (lv_at hl 0 rfl) ?_
                      obtain ⟨q199, h199, hf⟩ := bd_t hf
                      refine cl_v (va_runV (As := [.int x3, .ref (A 10)]) (rest := []) S (mX6_keeps_k10 l D cI cZ A mm x3 H.size q199 h199) (cwV 2 hts gX6_rows_X6_keeps rfl rfl rfl (by decide +kernel) ⟨Nat.le_of_ble_eq_true rfl, Nat.le_of_ble_eq_true rfl⟩) (mP_V (ci := 6) (Cut.self _ []) hP hD hK hG rfl (gX6_0 _ _ _ _)) rfl rfl hl.1 rfl (lv_room (Nat.le_of_ble_eq_true rfl)) dX6_rows_199 ⟨Nat.le_refl _, Nat.le_refl _⟩) (Cut.self _ _) hP hD hS hA (fun H locs hP hD hS => ?_)
                      refine lv_iload_n hx hb dX6_rows_202 rfl (lv_at hl 3 rfl) ?_
                      refine lv_aload_n hx hb dX6_rows_203 rfl (lv_at hl 0 rfl) ?_
                      refine va_alen (v := 30) hx hb hK hP 10 0 (gX6_10 _ _ _ _) rfl rfl dX6_rows_204 ?_
                      refine lv_iadd hx hb dX6_rows_205 ?_
                      refine lv_istore_n (lv' := [(3, .int (x3 + 30)), (2, .ref (A 10)), (0, .ref (A 0)), (1, .int x1), (4, .int x4)]) hx hb dX6_rows_206 rfl hl (by decide) rfl (fun ls hl => ?_)
                      refine lv_iinc (v := x4 + 1) (lv' := [(4, .int (x4 + 1)), (3, .int (x3 + 30)), (2, .ref (A 10)), (0, .ref (A 0)), (1, .int x1)]) hx hb dX6_rows_207 hl (k := 4) rfl rfl (by decide) rfl (fun ls hl => ?_)
                      refine lv_goto (tgt := 10) hx hb dX6_rows_210 (by decide) ?_
                      exact hk10 _ hf H locs hP hD hS ls (lv_sub hl [3, 4, 1, 0] rfl)
                    · have hf := if_f c184 hf
                      refine lv_aload_n hx hb dX6_rows_187 rfl (lv_at hl 1 rfl) ?_
                      refine lv_iload_n hx hb dX6_rows_188 rfl (lv_at hl 3 rfl) ?_
                      refine lv_aload_n hx hb dX6_rows_189 rfl (lv_at hl 0 rfl) ?_
                      obtain ⟨q190, h190, hf⟩ := bd_t hf
                      refine cl_v (va_runV (As := [.int x3, .ref (A 10)]) (rest := []) S (mX6_back_k10 l D cI cZ A mm x3 H.size q190 h190) (cwV 2 hts gX6_rows_X6_back rfl rfl rfl (by decide +kernel) ⟨Nat.le_of_ble_eq_true rfl, Nat.le_of_ble_eq_true rfl⟩) (mP_V (ci := 6) (Cut.self _ []) hP hD hK hG rfl (gX6_0 _ _ _ _)) rfl rfl hl.1 rfl (lv_room (Nat.le_of_ble_eq_true rfl)) dX6_rows_190 ⟨Nat.le_refl _, Nat.le_refl _⟩) (Cut.self _ _) hP hD hS hA (fun H locs hP hD hS => ?_)
                      refine lv_goto (tgt := 202) hx hb dX6_rows_193 (by decide) ?_
                      refine lv_iload_n hx hb dX6_rows_202 rfl (lv_at hl 3 rfl) ?_
                      refine lv_aload_n hx hb dX6_rows_203 rfl (lv_at hl 0 rfl) ?_
                      refine va_alen (v := 30) hx hb hK hP 10 0 (gX6_10 _ _ _ _) rfl rfl dX6_rows_204 ?_
                      refine lv_iadd hx hb dX6_rows_205 ?_
                      refine lv_istore_n (lv' := [(3, .int (x3 + 30)), (2, .ref (A 10)), (0, .ref (A 0)), (1, .int x1), (4, .int x4)]) hx hb dX6_rows_206 rfl hl (by decide) rfl (fun ls hl => ?_)
                      refine lv_iinc (v := x4 + 1) (lv' := [(4, .int (x4 + 1)), (3, .int (x3 + 30)), (2, .ref (A 10)), (0, .ref (A 0)), (1, .int x1)]) hx hb dX6_rows_207 hl (k := 4) rfl rfl (by decide) rfl (fun ls hl => ?_)
                      refine lv_goto (tgt := 10) hx hb dX6_rows_210 (by decide) ?_
                      exact hk10 _ hf H locs hP hD hS ls (lv_sub hl [3, 4, 1, 0] rfl)
                · have hf := if_t c84 hf
                  refine lv_aload_n hx hb dX6_rows_87 rfl (lv_at hl 0 rfl) ?_
                  refine ld_f S iX6 hK hP 0 14 (.ref (A 13)) (gX6_0 _ _ _ _) rfl (by decide) k51 rfl rfl dX6_rows_88 ?_
                  refine lv_goto (tgt := 182) hx hb dX6_rows_91 (by decide) ?_
                  refine lv_astore_n (lv' := [(2, .ref (A 13)), (0, .ref (A 0)), (1, .int x1), (3, .int x3), (4, .int x4)]) hx hb dX6_rows_182 rfl hl (by decide) rfl (fun ls hl => ?_)
                  refine lv_iload_n hx hb dX6_rows_183 rfl (lv_at hl 2 rfl) ?_
                  refine lv_if_eq (tgt := 196) hx hb dX6_rows_184 (by decide) (fun c184 => ?_) (fun c184 => ?_)
                  · have hf := if_t c184 hf
                    refine lv_aload_n hx hb dX6_rows_196 rfl (lv_at hl 1 rfl) ?_
                    refine lv_iload_n hx hb dX6_rows_197 rfl (lv_at hl 3 rfl) ?_
                    refine lv_aload_n hx hb dX6_rows_198 rfl (lv_at hl 0 rfl) ?_
                    obtain ⟨q199, h199, hf⟩ := bd_t hf
                    refine cl_v (va_runV (As := [.int x3, .ref (A 13)]) (rest := []) S (mX6_keeps_k13 l D cI cZ A mm x3 H.size q199 h199) (cwV 2 hts gX6_rows_X6_keeps rfl rfl rfl (by decide +kernel) ⟨Nat.le_of_ble_eq_true rfl, Nat.le_of_ble_eq_true rfl⟩) (mP_V (ci := 6) (Cut.self _ []) hP hD hK hG rfl (gX6_0 _ _ _ _)) rfl rfl hl.1 rfl (lv_room (Nat.le_of_ble_eq_true rfl)) dX6_rows_199 ⟨Nat.le_refl _, Nat.le_refl _⟩) (Cut.self _ _) hP hD hS hA (fun H locs hP hD hS => ?_)
                    refine lv_iload_n hx hb dX6_rows_202 rfl (lv_at hl 3 rfl) ?_
                    refine lv_aload_n hx hb dX6_rows_203 rfl (lv_at hl 0 rfl) ?_
                    refine va_alen (v := 30) hx hb hK hP 13 0 (gX6_13 _ _ _ _) rfl rfl dX6_rows_204 ?_
                    refine lv_iadd hx hb dX6_rows_205 ?_
                    refine lv_istore_n (lv' := [(3, .int (x3 + 30)), (2, .ref (A 13)), (0, .ref (A 0)), (1, .int x1), (4, .int x4)]) hx hb dX6_rows_206 rfl hl (by decide) rfl (fun ls hl => ?_)
                    refine lv_iinc (v := x4 + 1) (lv' := [(4, .int (x4 + 1)), (3, .int (x3 + 30)), (2, .ref (A 13)), (0, .ref (A 0)), (1, .int x1)]) hx hb dX6_rows_207 hl (k := 4) rfl rfl (by decide) rfl (fun ls hl => ?_)
                    refine lv_goto (tgt := 10) hx hb dX6_rows_210 (by decide) ?_
                    exact hk10 _ hf H locs hP hD hS ls (lv_sub hl [3, 4, 1, 0] rfl)
                  · have hf := if_f c184 hf
                    refine lv_aload_n hx hb dX6_rows_187 rfl (lv_at hl 1 rfl) ?_
                    refine lv_iload_n hx hb dX6_rows_188 rfl (lv_at hl 3 rfl) ?_
                    refine lv_aload_n hx hb dX6_rows_189 rfl (lv_at hl 0 rfl) ?_
                    obtain ⟨q190, h190, hf⟩ := bd_t hf
                    refine cl_v (va_runV (As := [.int x3, .ref (A 13)]) (rest := []) S (mX6_back_k13 l D cI cZ A mm x3 H.size q190 h190) (cwV 2 hts gX6_rows_X6_back rfl rfl rfl (by decide +kernel) ⟨Nat.le_of_ble_eq_true rfl, Nat.le_of_ble_eq_true rfl⟩) (mP_V (ci := 6) (Cut.self _ []) hP hD hK hG rfl (gX6_0 _ _ _ _)) rfl rfl hl.1 rfl (lv_room (Nat.le_of_ble_eq_true rfl)) dX6_rows_190 ⟨Nat.le_refl _, Nat.le_refl _⟩) (Cut.self _ _) hP hD hS hA (fun H locs hP hD hS => ?_)
                    refine lv_goto (tgt := 202) hx hb dX6_rows_193 (by decide) ?_
                    refine lv_iload_n hx hb dX6_rows_202 rfl (lv_at hl 3 rfl) ?_
                    refine lv_aload_n hx hb dX6_rows_203 rfl (lv_at hl 0 rfl) ?_
                    refine va_alen (v := 30) hx hb hK hP 13 0 (gX6_13 _ _ _ _) rfl rfl dX6_rows_204 ?_
                    refine lv_iadd hx hb dX6_rows_205 ?_
                    refine lv_istore_n (lv' := [(3, .int (x3 + 30)), (2, .ref (A 13)), (0, .ref (A 0)), (1, .int x1), (4, .int x4)]) hx hb dX6_rows_206 rfl hl (by decide) rfl (fun ls hl => ?_)
                    refine lv_iinc (v := x4 + 1) (lv' := [(4, .int (x4 + 1)), (3, .int (x3 + 30)), (2, .ref (A 13)), (0, .ref (A 0)), (1, .int x1)]) hx hb dX6_rows_207 hl (k := 4) rfl rfl (by decide) rfl (fun ls hl => ?_)
                    refine lv_goto (tgt := 10) hx hb dX6_rows_210 (by decide) ?_
                    exact hk10 _ hf H locs hP hD hS ls (lv_sub hl [3, 4, 1, 0] rfl)
              · have hf := if_t c71 hf
                refine lv_aload_n hx hb dX6_rows_74 rfl (lv_at hl 0 rfl) ?_
                refine ld_f S iX6 hK hP 0 13 (.ref (A 12)) (gX6_0 _ _ _ _) rfl (by decide) k48 rfl rfl dX6_rows_75 ?_
                refine lv_goto (tgt := 182) hx hb dX6_rows_78 (by decide) ?_
                refine lv_astore_n (lv' := [(2, .ref (A 12)), (0, .ref (A 0)), (1, .int x1), (3, .int x3), (4, .int x4)]) hx hb dX6_rows_182 rfl hl (by decide) rfl (fun ls hl => ?_)
                refine lv_iload_n hx hb dX6_rows_183 rfl (lv_at hl 2 rfl) ?_
                refine lv_if_eq (tgt := 196) hx hb dX6_rows_184 (by decide) (fun c184 => ?_) (fun c184 => ?_)
                · have hf := if_t c184 hf
                  refine lv_aload_n hx hb dX6_rows_196 rfl (lv_at hl 1 rfl) ?_
                  refine lv_iload_n hx hb dX6_rows_197 rfl (lv_at hl 3 rfl) ?_
                  refine lv_aload_n hx hb dX6_rows_198 rfl (lv_at hl 0 rfl) ?_
                  obtain ⟨q199, h199, hf⟩ := bd_t hf
                  refine cl_v (va_runV (As := [.int x3, .ref (A 12)]) (rest := []) S (mX6_keeps_k12 l D cI cZ A mm x3 H.size q199 h199) (cwV 2 hts gX6_rows_X6_keeps rfl rfl rfl (by decide +kernel) ⟨Nat.le_of_ble_eq_true rfl, Nat.le_of_ble_eq_true rfl⟩) (mP_V (ci := 6) (Cut.self _ []) hP hD hK hG rfl (gX6_0 _ _ _ _)) rfl rfl hl.1 rfl (lv_room (Nat.le_of_ble_eq_true rfl)) dX6_rows_199 ⟨Nat.le_refl _, Nat.le_refl _⟩) (Cut.self _ _) hP hD hS hA (fun H locs hP hD hS => ?_)
                  refine lv_iload_n hx hb dX6_rows_202 rfl (lv_at hl 3 rfl) ?_
                  refine lv_aload_n hx hb dX6_rows_203 rfl (lv_at hl 0 rfl) ?_
                  refine va_alen (v := 30) hx hb hK hP 12 0 (gX6_12 _ _ _ _) rfl rfl dX6_rows_204 ?_
                  refine lv_iadd hx hb dX6_rows_205 ?_
                  refine lv_istore_n (lv' := [(3, .int (x3 + 30)), (2, .ref (A 12)), (0, .ref (A 0)), (1, .int x1), (4, .int x4)]) hx hb dX6_rows_206 rfl hl (by decide) rfl (fun ls hl => ?_)
                  refine lv_iinc (v := x4 + 1) (lv' := [(4, .int (x4 + 1)), (3, .int (x3 + 30)), (2, .ref (A 12)), (0, .ref (A 0)), (1, .int x1)]) hx hb dX6_rows_207 hl (k := 4) rfl rfl (by decide) rfl (fun ls hl => ?_)
                  refine lv_goto (tgt := 10) hx hb dX6_rows_210 (by decide) ?_
                  exact hk10 _ hf H locs hP hD hS ls (lv_sub hl [3, 4, 1, 0] rfl)
                · have hf := if_f c184 hf
                  refine lv_aload_n hx hb dX6_rows_187 rfl (lv_at hl 1 rfl) ?_
                  refine lv_iload_n hx hb dX6_rows_188 rfl (lv_at hl 3 rfl) ?_
                  refine lv_aload_n hx hb dX6_rows_189 rfl (lv_at hl 0 rfl) ?_
                  obtain ⟨q190, h190, hf⟩ := bd_t hf
                  refine cl_v (va_runV (As := [.int x3, .ref (A 12)]) (rest := []) S (mX6_back_k12 l D cI cZ A mm x3 H.size q190 h190) (cwV 2 hts gX6_rows_X6_back rfl rfl rfl (by decide +kernel) ⟨Nat.le_of_ble_eq_true rfl, Nat.le_of_ble_eq_true rfl⟩) (mP_V (ci := 6) (Cut.self _ []) hP hD hK hG rfl (gX6_0 _ _ _ _)) rfl rfl hl.1 rfl (lv_room (Nat.le_of_ble_eq_true rfl)) dX6_rows_190 ⟨Nat.le_refl _, Nat.le_refl _⟩) (Cut.self _ _) hP hD hS hA (fun H locs hP hD hS => ?_)
                  refine lv_goto (tgt := 202) hx hb dX6_rows_193 (by decide) ?_
                  refine lv_iload_n hx hb dX6_rows_202 rfl (lv_at hl 3 rfl) ?_
                  refine lv_aload_n hx hb dX6_rows_203 rfl (lv_at hl 0 rfl) ?_
                  refine va_alen (v := 30) hx hb hK hP 12 0 (gX6_12 _ _ _ _) rfl rfl dX6_rows_204 ?_
                  refine lv_iadd hx hb dX6_rows_205 ?_
                  refine lv_istore_n (lv' := [(3, .int (x3 + 30)), (2, .ref (A 12)), (0, .ref (A 0)), (1, .int x1), (4, .int x4)]) hx hb dX6_rows_206 rfl hl (by decide) rfl (fun ls hl => ?_)
                  refine lv_iinc (v := x4 + 1) (lv' := [(4, .int (x4 + 1)), (3, .int (x3 + 30)), (2, .ref (A 12)), (0, .ref (A 0)), (1, .int x1)]) hx hb dX6_rows_207 hl (k := 4) rfl rfl (by decide) rfl (fun ls hl => ?_)
                  refine lv_goto (tgt := 10) hx hb dX6_rows_210 (by decide) ?_
                  exact hk10 _ hf H locs hP hD hS ls (lv_sub hl [3, 4, 1, 0] rfl)
            · have hf := if_t c58 hf
              refine lv_aload_n hx hb dX6_rows_61 rfl (lv_at hl 0 rfl) ?_
              refine ld_f S iX6 hK hP 0 19 (.ref (A 18)) (gX6_0 _ _ _ _) rfl (by decide) k66 rfl rfl dX6_rows_62 ?_
              refine lv_goto (tgt := 182) hx hb dX6_rows_65 (by decide) ?_
              refine lv_astore_n (lv' := [(2, .ref (A 18)), (0, .ref (A 0)), (1, .int x1), (3, .int x3), (4, .int x4)]) hx hb dX6_rows_182 rfl hl (by decide) rfl (fun ls hl => ?_)
              refine lv_iload_n hx hb dX6_rows_183 rfl (lv_at hl 2 rfl) ?_
              refine lv_if_eq (tgt := 196) hx hb dX6_rows_184 (by decide) (fun c184 => ?_) (fun c184 => ?_)
              · have hf := if_t c184 hf
                refine lv_aload_n hx hb dX6_rows_196 rfl (lv_at hl 1 rfl) ?_
                refine lv_iload_n hx hb dX6_rows_197 rfl (lv_at hl 3 rfl) ?_
                refine lv_aload_n hx hb dX6_rows_198 rfl (lv_at hl 0 rfl) ?_
                obtain ⟨q199, h199, hf⟩ := bd_t hf
                refine cl_v (va_runV (As := [.int x3, .ref (A 18)]) (rest := []) S (mX6_keeps_k18 l D cI cZ A mm x3 H.size q199 h199) (cwV 2 hts gX6_rows_X6_keeps rfl rfl rfl (by decide +kernel) ⟨Nat.le_of_ble_eq_true rfl, Nat.le_of_ble_eq_true rfl⟩) (mP_V (ci := 6) (Cut.self _ []) hP hD hK hG rfl (gX6_0 _ _ _ _)) rfl rfl hl.1 rfl (lv_room (Nat.le_of_ble_eq_true rfl)) dX6_rows_199 ⟨Nat.le_refl _, Nat.le_refl _⟩) (Cut.self _ _) hP hD hS hA (fun H locs hP hD hS => ?_)
                refine lv_iload_n hx hb dX6_rows_202 rfl (lv_at hl 3 rfl) ?_
                refine lv_aload_n hx hb dX6_rows_203 rfl (lv_at hl 0 rfl) ?_
                refine va_alen (v := 6) hx hb hK hP 18 0 (gX6_18 _ _ _ _) rfl rfl dX6_rows_204 ?_
                refine lv_iadd hx hb dX6_rows_205 ?_
                refine lv_istore_n (lv' := [(3, .int (x3 + 6)), (2, .ref (A 18)), (0, .ref (A 0)), (1, .int x1), (4, .int x4)]) hx hb dX6_rows_206 rfl hl (by decide) rfl (fun ls hl => ?_)
                refine lv_iinc (v := x4 + 1) (lv' := [(4, .int (x4 + 1)), (3, .int (x3 + 6)), (2, .ref (A 18)), (0, .ref (A 0)), (1, .int x1)]) hx hb dX6_rows_207 hl (k := 4) rfl rfl (by decide) rfl (fun ls hl => ?_)
                refine lv_goto (tgt := 10) hx hb dX6_rows_210 (by decide) ?_
                exact hk10 _ hf H locs hP hD hS ls (lv_sub hl [3, 4, 1, 0] rfl)
              · have hf := if_f c184 hf
                refine lv_aload_n hx hb dX6_rows_187 rfl (lv_at hl 1 rfl) ?_
                refine lv_iload_n hx hb dX6_rows_188 rfl (lv_at hl 3 rfl) ?_
                refine lv_aload_n hx hb dX6_rows_189 rfl (lv_at hl 0 rfl) ?_
                obtain ⟨q190, h190, hf⟩ := bd_t hf
                refine cl_v (va_runV (As := [.int x3, .ref (A 18)]) (rest := []) S (mX6_back_k18 l D cI cZ A mm x3 H.size q190 h190) (cwV 2 hts gX6_rows_X6_back rfl rfl rfl (by decide +kernel) ⟨Nat.le_of_ble_eq_true rfl, Nat.le_of_ble_eq_true rfl⟩) (mP_V (ci := 6) (Cut.self _ []) hP hD hK hG rfl (gX6_0 _ _ _ _)) rfl rfl hl.1 rfl (lv_room (Nat.le_of_ble_eq_true rfl)) dX6_rows_190 ⟨Nat.le_refl _, Nat.le_refl _⟩) (Cut.self _ _) hP hD hS hA (fun H locs hP hD hS => ?_)
                refine lv_goto (tgt := 202) hx hb dX6_rows_193 (by decide) ?_
                refine lv_iload_n hx hb dX6_rows_202 rfl (lv_at hl 3 rfl) ?_
                refine lv_aload_n hx hb dX6_rows_203 rfl (lv_at hl 0 rfl) ?_
                refine va_alen (v := 6) hx hb hK hP 18 0 (gX6_18 _ _ _ _) rfl rfl dX6_rows_204 ?_
                refine lv_iadd hx hb dX6_rows_205 ?_
                refine lv_istore_n (lv' := [(3, .int (x3 + 6)), (2, .ref (A 18)), (0, .ref (A 0)), (1, .int x1), (4, .int x4)]) hx hb dX6_rows_206 rfl hl (by decide) rfl (fun ls hl => ?_)
                refine lv_iinc (v := x4 + 1) (lv' := [(4, .int (x4 + 1)), (3, .int (x3 + 6)), (2, .ref (A 18)), (0, .ref (A 0)), (1, .int x1)]) hx hb dX6_rows_207 hl (k := 4) rfl rfl (by decide) rfl (fun ls hl => ?_)
                refine lv_goto (tgt := 10) hx hb dX6_rows_210 (by decide) ?_
                exact hk10 _ hf H locs hP hD hS ls (lv_sub hl [3, 4, 1, 0] rfl)
          · have hf := if_t c45 hf
            refine lv_aload_n hx hb dX6_rows_48 rfl (lv_at hl 0 rfl) ?_
            refine ld_f S iX6 hK hP 0 18 (.ref (A 17)) (gX6_0 _ _ _ _) rfl (by decide) k63 rfl rfl dX6_rows_49 ?_
            refine lv_goto (tgt := 182) hx hb dX6_rows_52 (by decide) ?_
            refine lv_astore_n (lv' := [(2, .ref (A 17)), (0, .ref (A 0)), (1, .int x1), (3, .int x3), (4, .int x4)]) hx hb dX6_rows_182 rfl hl (by decide) rfl (fun ls hl => ?_)
            refine lv_iload_n hx hb dX6_rows_183 rfl (lv_at hl 2 rfl) ?_
            refine lv_if_eq (tgt := 196) hx hb dX6_rows_184 (by decide) (fun c184 => ?_) (fun c184 => ?_)
            · have hf := if_t c184 hf
              refine lv_aload_n hx hb dX6_rows_196 rfl (lv_at hl 1 rfl) ?_
              refine lv_iload_n hx hb dX6_rows_197 rfl (lv_at hl 3 rfl) ?_
              refine lv_aload_n hx hb dX6_rows_198 rfl (lv_at hl 0 rfl) ?_
              obtain ⟨q199, h199, hf⟩ := bd_t hf
              refine cl_v (va_runV (As := [.int x3, .ref (A 17)]) (rest := []) S (mX6_keeps_k17 l D cI cZ A mm x3 H.size q199 h199) (cwV 2 hts gX6_rows_X6_keeps rfl rfl rfl (by decide +kernel) ⟨Nat.le_of_ble_eq_true rfl, Nat.le_of_ble_eq_true rfl⟩) (mP_V (ci := 6) (Cut.self _ []) hP hD hK hG rfl (gX6_0 _ _ _ _)) rfl rfl hl.1 rfl (lv_room (Nat.le_of_ble_eq_true rfl)) dX6_rows_199 ⟨Nat.le_refl _, Nat.le_refl _⟩) (Cut.self _ _) hP hD hS hA (fun H locs hP hD hS => ?_)
              refine lv_iload_n hx hb dX6_rows_202 rfl (lv_at hl 3 rfl) ?_
              refine lv_aload_n hx hb dX6_rows_203 rfl (lv_at hl 0 rfl) ?_
              refine va_alen (v := 6) hx hb hK hP 17 0 (gX6_17 _ _ _ _) rfl rfl dX6_rows_204 ?_
              refine lv_iadd hx hb dX6_rows_205 ?_
              refine lv_istore_n (lv' := [(3, .int (x3 + 6)), (2, .ref (A 17)), (0, .ref (A 0)), (1, .int x1), (4, .int x4)]) hx hb dX6_rows_206 rfl hl (by decide) rfl (fun ls hl => ?_)
              refine lv_iinc (v := x4 + 1) (lv' := [(4, .int (x4 + 1)), (3, .int (x3 + 6)), (2, .ref (A 17)), (0, .ref (A 0)), (1, .int x1)]) hx hb dX6_rows_207 hl (k := 4) rfl rfl (by decide) rfl (fun ls hl => ?_)
              refine lv_goto (tgt := 10) hx hb dX6_rows_210 (by decide) ?_
              exact hk10 _ hf H locs hP hD hS ls (lv_sub hl [3, 4, 1, 0] rfl)
            · have hf := if_f c184 hf
              refine lv_aload_n hx hb dX6_rows_187 rfl (lv_at hl 1 rfl) ?_
              refine lv_iload_n hx hb dX6_rows_188 rfl (lv_at hl 3 rfl) ?_
              refine lv_aload_n hx hb dX6_rows_189 rfl (lv_at hl 0 rfl) ?_
              obtain ⟨q190, h190, hf⟩ := bd_t hf
              refine cl_v (va_runV (As := [.int x3, .ref (A 17)]) (rest := []) S (mX6_back_k17 l D cI cZ A mm x3 H.size q190 h190) (cwV 2 hts gX6_rows_X6_back rfl rfl rfl (by decide +kernel) ⟨Nat.le_of_ble_eq_true rfl, Nat.le_of_ble_eq_true rfl⟩) (mP_V (ci := 6) (Cut.self _ []) hP hD hK hG rfl (gX6_0 _ _ _ _)) rfl rfl hl.1 rfl (lv_room (Nat.le_of_ble_eq_true rfl)) dX6_rows_190 ⟨Nat.le_refl _, Nat.le_refl _⟩) (Cut.self _ _) hP hD hS hA (fun H locs hP hD hS => ?_)
              refine lv_goto (tgt := 202) hx hb dX6_rows_193 (by decide) ?_
              refine lv_iload_n hx hb dX6_rows_202 rfl (lv_at hl 3 rfl) ?_
              refine lv_aload_n hx hb dX6_rows_203 rfl (lv_at hl 0 rfl) ?_
              refine va_alen (v := 6) hx hb hK hP 17 0 (gX6_17 _ _ _ _) rfl rfl dX6_rows_204 ?_
              refine lv_iadd hx hb dX6_rows_205 ?_
              refine lv_istore_n (lv' := [(3, .int (x3 + 6)), (2, .ref (A 17)), (0, .ref (A 0)), (1, .int x1), (4, .int x4)]) hx hb dX6_rows_206 rfl hl (by decide) rfl (fun ls hl => ?_)
              refine lv_iinc (v := x4 + 1) (lv' := [(4, .int (x4 + 1)), (3, .int (x3 + 6)), (2, .ref (A 17)), (0, .ref (A 0)), (1, .int x1)]) hx hb dX6_rows_207 hl (k := 4) rfl rfl (by decide) rfl (fun ls hl => ?_)
              refine lv_goto (tgt := 10) hx hb dX6_rows_210 (by decide) ?_
              exact hk10 _ hf H locs hP hD hS ls (lv_sub hl [3, 4, 1, 0] rfl)
        · have hf := if_t c32 hf
          refine lv_aload_n hx hb dX6_rows_35 rfl (lv_at hl 0 rfl) ?_
          refine ld_f S iX6 hK hP 0 17 (.ref (A 16)) (gX6_0 _ _ _ _) rfl (by decide) k60 rfl rfl dX6_rows_36 ?_
          refine lv_goto (tgt := 182) hx hb dX6_rows_39 (by decide) ?_
          refine lv_astore_n (lv' := [(2, .ref (A 16)), (0, .ref (A 0)), (1, .int x1), (3, .int x3), (4, .int x4)]) hx hb dX6_rows_182 rfl hl (by decide) rfl (fun ls hl => ?_)
          refine lv_iload_n hx hb dX6_rows_183 rfl (lv_at hl 2 rfl) ?_
          refine lv_if_eq (tgt := 196) hx hb dX6_rows_184 (by decide) (fun c184 => ?_) (fun c184 => ?_)
          · have hf := if_t c184 hf
            refine lv_aload_n hx hb dX6_rows_196 rfl (lv_at hl 1 rfl) ?_
            refine lv_iload_n hx hb dX6_rows_197 rfl (lv_at hl 3 rfl) ?_
            refine lv_aload_n hx hb dX6_rows_198 rfl (lv_at hl 0 rfl) ?_
            obtain ⟨q199, h199, hf⟩ := bd_t hf
            refine cl_v (va_runV (As := [.int x3, .ref (A 16)]) (rest := []) S (mX6_keeps_k16 l D cI cZ A mm x3 H.size q199 h199) (cwV 2 hts gX6_rows_X6_keeps rfl rfl rfl (by decide +kernel) ⟨Nat.le_of_ble_eq_true rfl, Nat.le_of_ble_eq_true rfl⟩) (mP_V (ci := 6) (Cut.self _ []) hP hD hK hG rfl (gX6_0 _ _ _ _)) rfl rfl hl.1 rfl (lv_room (Nat.le_of_ble_eq_true rfl)) dX6_rows_199 ⟨Nat.le_refl _, Nat.le_refl _⟩) (Cut.self _ _) hP hD hS hA (fun H locs hP hD hS => ?_)
            refine lv_iload_n hx hb dX6_rows_202 rfl (lv_at hl 3 rfl) ?_
            refine lv_aload_n hx hb dX6_rows_203 rfl (lv_at hl 0 rfl) ?_
            refine va_alen (v := 6) hx hb hK hP 16 0 (gX6_16 _ _ _ _) rfl rfl dX6_rows_204 ?_
            refine lv_iadd hx hb dX6_rows_205 ?_
            refine lv_istore_n (lv' := [(3, .int (x3 + 6)), (2, .ref (A 16)), (0, .ref (A 0)), (1, .int x1), (4, .int x4)]) hx hb dX6_rows_206 rfl hl (by decide) rfl (fun ls hl => ?_)
            refine lv_iinc (v := x4 + 1) (lv' := [(4, .int (x4 + 1)), (3, .int (x3 + 6)), (2, .ref (A 16)), (0, .ref (A 0)), (1, .int x1)]) hx hb dX6_rows_207 hl (k := 4) rfl rfl (by decide) rfl (fun ls hl => ?_)
            refine lv_goto (tgt := 10) hx hb dX6_rows_210 (by decide) ?_
            exact hk10 _ hf H locs hP hD hS ls (lv_sub hl [3, 4, 1, 0] rfl)
          · have hf := if_f c184 hf
            refine lv_aload_n hx hb dX6_rows_187 rfl (lv_at hl 1 rfl) ?_
            refine lv_iload_n hx hb dX6_rows_188 rfl (lv_at hl 3 rfl) ?_
            refine lv_aload_n hx hb dX6_rows_189 rfl (lv_at hl 0 rfl) ?_
            obtain ⟨q190, h190, hf⟩ := bd_t hf
            refine cl_v (va_runV (As := [.int x3, .ref (A 16)]) (rest := []) S (mX6_back_k16 l D cI cZ A mm x3 H.size q190 h190) (cwV 2 hts gX6_rows_X6_back rfl rfl rfl (by decide +kernel) ⟨Nat.le_of_ble_eq_true rfl, Nat.le_of_ble_eq_true rfl⟩) (mP_V (ci := 6) (Cut.self _ []) hP hD hK hG rfl (gX6_0 _ _ _ _)) rfl rfl hl.1 rfl (lv_room (Nat.le_of_ble_eq_true rfl)) dX6_rows_190 ⟨Nat.le_refl _, Nat.le_refl _⟩) (Cut.self _ _) hP hD hS hA (fun H locs hP hD hS => ?_)
            refine lv_goto (tgt := 202) hx hb dX6_rows_193 (by decide) ?_
            refine lv_iload_n hx hb dX6_rows_202 rfl (lv_at hl 3 rfl) ?_
            refine lv_aload_n hx hb dX6_rows_203 rfl (lv_at hl 0 rfl) ?_
            refine va_alen (v := 6) hx hb hK hP 16 0 (gX6_16 _ _ _ _) rfl rfl dX6_rows_204 ?_
            refine lv_iadd hx hb dX6_rows_205 ?_
            refine lv_istore_n (lv' := [(3, .int (x3 + 6)), (2, .ref (A 16)), (0, .ref (A 0)), (1, .int x1), (4, .int x4)]) hx hb dX6_rows_206 rfl hl (by decide) rfl (fun ls hl => ?_)
            refine lv_iinc (v := x4 + 1) (lv' := [(4, .int (x4 + 1)), (3, .int (x3 + 6)), (2, .ref (A 16)), (0, .ref (A 0)), (1, .int x1)]) hx hb dX6_rows_207 hl (k := 4) rfl rfl (by decide) rfl (fun ls hl => ?_)
            refine lv_goto (tgt := 10) hx hb dX6_rows_210 (by decide) ?_
            exact hk10 _ hf H locs hP hD hS ls (lv_sub hl [3, 4, 1, 0] rfl)
      · have hf := if_t c19 hf
        refine lv_aload_n hx hb dX6_rows_22 rfl (lv_at hl 0 rfl) ?_
        refine ld_f S iX6 hK hP 0 16 (.ref (A 15)) (gX6_0 _ _ _ _) rfl (by decide) k57 rfl rfl dX6_rows_23 ?_
        refine lv_goto (tgt := 182) hx hb dX6_rows_26 (by decide) ?_
        refine lv_astore_n (lv' := [(2, .ref (A 15)), (0, .ref (A 0)), (1, .int x1), (3, .int x3), (4, .int x4)]) hx hb dX6_rows_182 rfl hl (by decide) rfl (fun ls hl => ?_)
        refine lv_iload_n hx hb dX6_rows_183 rfl (lv_at hl 2 rfl) ?_
        refine lv_if_eq (tgt := 196) hx hb dX6_rows_184 (by decide) (fun c184 => ?_) (fun c184 => ?_)
        · have hf := if_t c184 hf
          refine lv_aload_n hx hb dX6_rows_196 rfl (lv_at hl 1 rfl) ?_
          refine lv_iload_n hx hb dX6_rows_197 rfl (lv_at hl 3 rfl) ?_
          refine lv_aload_n hx hb dX6_rows_198 rfl (lv_at hl 0 rfl) ?_
          obtain ⟨q199, h199, hf⟩ := bd_t hf
          refine cl_v (va_runV (As := [.int x3, .ref (A 15)]) (rest := []) S (mX6_keeps_k15 l D cI cZ A mm x3 H.size q199 h199) (cwV 2 hts gX6_rows_X6_keeps rfl rfl rfl (by decide +kernel) ⟨Nat.le_of_ble_eq_true rfl, Nat.le_of_ble_eq_true rfl⟩) (mP_V (ci := 6) (Cut.self _ []) hP hD hK hG rfl (gX6_0 _ _ _ _)) rfl rfl hl.1 rfl (lv_room (Nat.le_of_ble_eq_true rfl)) dX6_rows_199 ⟨Nat.le_refl _, Nat.le_refl _⟩) (Cut.self _ _) hP hD hS hA (fun H locs hP hD hS => ?_)
          refine lv_iload_n hx hb dX6_rows_202 rfl (lv_at hl 3 rfl) ?_
          refine lv_aload_n hx hb dX6_rows_203 rfl (lv_at hl 0 rfl) ?_
          refine va_alen (v := 6) hx hb hK hP 15 0 (gX6_15 _ _ _ _) rfl rfl dX6_rows_204 ?_
          refine lv_iadd hx hb dX6_rows_205 ?_
          refine lv_istore_n (lv' := [(3, .int (x3 + 6)), (2, .ref (A 15)), (0, .ref (A 0)), (1, .int x1), (4, .int x4)]) hx hb dX6_rows_206 rfl hl (by decide) rfl (fun ls hl => ?_)
          refine lv_iinc (v := x4 + 1) (lv' := [(4, .int (x4 + 1)), (3, .int (x3 + 6)), (2, .ref (A 15)), (0, .ref (A 0)), (1, .int x1)]) hx hb dX6_rows_207 hl (k := 4) rfl rfl (by decide) rfl (fun ls hl => ?_)
          refine lv_goto (tgt := 10) hx hb dX6_rows_210 (by decide) ?_
          exact hk10 _ hf H locs hP hD hS ls (lv_sub hl [3, 4, 1, 0] rfl)
        · have hf := if_f c184 hf
          refine lv_aload_n hx hb dX6_rows_187 rfl (lv_at hl 1 rfl) ?_
          refine lv_iload_n hx hb dX6_rows_188 rfl (lv_at hl 3 rfl) ?_
          refine lv_aload_n hx hb dX6_rows_189 rfl (lv_at hl 0 rfl) ?_
          obtain ⟨q190, h190, hf⟩ := bd_t hf
          refine cl_v (va_runV (As := [.int x3, .ref (A 15)]) (rest := []) S (mX6_back_k15 l D cI cZ A mm x3 H.size q190 h190) (cwV 2 hts gX6_rows_X6_back rfl rfl rfl (by decide +kernel) ⟨Nat.le_of_ble_eq_true rfl, Nat.le_of_ble_eq_true rfl⟩) (mP_V (ci := 6) (Cut.self _ []) hP hD hK hG rfl (gX6_0 _ _ _ _)) rfl rfl hl.1 rfl (lv_room (Nat.le_of_ble_eq_true rfl)) dX6_rows_190 ⟨Nat.le_refl _, Nat.le_refl _⟩) (Cut.self _ _) hP hD hS hA (fun H locs hP hD hS => ?_)
          refine lv_goto (tgt := 202) hx hb dX6_rows_193 (by decide) ?_
          refine lv_iload_n hx hb dX6_rows_202 rfl (lv_at hl 3 rfl) ?_
          refine lv_aload_n hx hb dX6_rows_203 rfl (lv_at hl 0 rfl) ?_
          refine va_alen (v := 6) hx hb hK hP 15 0 (gX6_15 _ _ _ _) rfl rfl dX6_rows_204 ?_
          refine lv_iadd hx hb dX6_rows_205 ?_
          refine lv_istore_n (lv' := [(3, .int (x3 + 6)), (2, .ref (A 15)), (0, .ref (A 0)), (1, .int x1), (4, .int x4)]) hx hb dX6_rows_206 rfl hl (by decide) rfl (fun ls hl => ?_)
          refine lv_iinc (v := x4 + 1) (lv' := [(4, .int (x4 + 1)), (3, .int (x3 + 6)), (2, .ref (A 15)), (0, .ref (A 0)), (1, .int x1)]) hx hb dX6_rows_207 hl (k := 4) rfl rfl (by decide) rfl (fun ls hl => ?_)
          refine lv_goto (tgt := 10) hx hb dX6_rows_210 (by decide) ?_
          exact hk10 _ hf H locs hP hD hS ls (lv_sub hl [3, 4, 1, 0] rfl)
  intro H locs hP hD hS ls hl
  have hl : lv_has ls 5 [(0, .ref (A 0)), (1, .int x1)] := hl
  unfold fX6_rows at hf
  refine lv_aload_n hx hb dX6_rows_0 rfl (lv_at hl 0 rfl) ?_
  refine ld_f S iX6 hK hP 0 16 (.ref (A 15)) (gX6_0 _ _ _ _) rfl (by decide) k57 rfl rfl dX6_rows_1 ?_
  refine lv_astore_n (lv' := [(2, .ref (A 15)), (0, .ref (A 0)), (1, .int x1)]) hx hb dX6_rows_4 rfl hl (by decide) rfl (fun ls hl => ?_)
  refine lv_iconst (v := 0) hx hb dX6_rows_5 (by decide) ?_
  refine lv_istore_n (lv' := [(3, .int 0), (2, .ref (A 15)), (0, .ref (A 0)), (1, .int x1)]) hx hb dX6_rows_6 rfl hl (by decide) rfl (fun ls hl => ?_)
  refine lv_iconst (v := 0) hx hb dX6_rows_7 (by decide) ?_
  refine lv_istore (lv' := [(4, .int 0), (3, .int 0), (2, .ref (A 15)), (0, .ref (A 0)), (1, .int x1)]) hx hb dX6_rows_8 hl (by decide) rfl (fun ls hl => ?_)
  exact B10 _ _ _ _ hf H locs hP hD hS ls (lv_sub hl [3, 4, 1, 0] rfl)
set_option maxHeartbeats 4000000 in
set_option maxRecDepth 100000 in
theorem mX6_isLike_k15 (l : Launch) (D : va_G) (cI cZ : ClassId) (A : Nat → Nat)  (mm : St) (x1 : Int32) (sz : Nat) (res : Int32) (hf : fX6_isLike_k15 mm x1 = some res) : Met l yX6_isLike wsX6_isLike ({ frames := 0, cells := 0, slots := 0, locals := 0 }) (mP D (tysX cI cZ) [.ref (A 0), .int x1, .ref (A 15)] (wX6 cI cZ A mm) sz) (mQi D res (wX6 cI cZ A mm) (wX6 cI cZ A mm) sz) 0 0 (va_A (wX6 cI cZ A mm) sz) := by
  refine mkM_i (cc := cX6_isLike) (maxL := 5) (own := RX6) (by decide +kernel) rfl rfl (Nat.le_of_ble_eq_true rfl) ?_
  intro p e s m args below meth c A0 Q S hK hG hA hR
  obtain ⟨hx, hb, hml, hown, hts⟩ := id S
  have k114 := hts (.fieldLink RX6 114 "SwitchFloorModel" "kept" "[I") (by decide +kernel)
  have iX6 : ∀ w ∈ wsX60, w ∈ wsX6_isLike := by decide +kernel
  have B5 : ∀ (x1 : Int32) (x3 : Int32) (x4 : Int32), fX6_isLike_k15_L5 mm x1 x3 x4 = some res → Bk p l e ({ frames := 0, cells := 0, slots := 0, locals := 0 }) s m args below meth c Q A0 D 5 0 0 (wX6 cI cZ A mm) [(0, .ref (A 0)), (1, .int x1), (2, .ref (A 15)), (3, .int x3), (4, .int x4)] 5 [] := by
    intro x1 x3 x4 hf
    refine loop_ind (step := (fun k a => fX6_isLike_k15_S5 k mm x1 (a.1) (a.2))) (fun a => Bk p l e ({ frames := 0, cells := 0, slots := 0, locals := 0 }) s m args below meth c Q A0 D 5 0 0 (wX6 cI cZ A mm) [(0, .ref (A 0)), (1, .int x1), (2, .ref (A 15)), (3, .int (a.1)), (4, .int (a.2))] 5 []) ?_ _ _ hf
    clear hf
    intro k5 hk5 a hf
    obtain ⟨x3_, x4_⟩ := a
    clear x3 x4
    obtain ⟨x3, e_⟩ : ∃ z, z = x3_ := ⟨_, rfl⟩
    subst e_
    obtain ⟨x4, e_⟩ : ∃ z, z = x4_ := ⟨_, rfl⟩
    subst e_
    have hf : fX6_isLike_k15_S5 k5 mm x1 x3 x4 = some res := hf
    show Bk p l e ({ frames := 0, cells := 0, slots := 0, locals := 0 }) s m args below meth c Q A0 D 5 0 0 (wX6 cI cZ A mm) [(0, .ref (A 0)), (1, .int x1), (2, .ref (A 15)), (3, .int x3), (4, .int x4)] 5 []
    unfold fX6_isLike_k15_S5 at hf
    intro H locs hP hD hS ls hl
    refine lv_iload hx hb dX6_isLike_5 (lv_at hl 4 rfl) ?_
    refine lv_aload_n hx hb dX6_isLike_7 rfl (lv_at hl 2 rfl) ?_
    refine va_alen (v := 6) hx hb hK hP 15 0 (gX6_15 _ _ _ _) rfl rfl dX6_isLike_8 ?_
    refine lv_icmp_ge (tgt := 44) hx hb dX6_isLike_9 (by decide) (fun c9 => ?_) (fun c9 => ?_)
    · have hf := if_t c9 hf
      refine lv_iload_n hx hb dX6_isLike_44 rfl (lv_at hl 3 rfl) ?_
      obtain ⟨c45, hf⟩ := ck_t hf
      exact hR _ ls H locs _ _ (congrArg (fun q => q) (Option.some.inj hf)) rfl (isb_n c45) dX6_isLike_45 hP hD hS
    · have hf := if_f c9 hf
      refine lv_iload_n hx hb dX6_isLike_12 rfl (lv_at hl 3 rfl) ?_
      refine lv_if_eq (tgt := 36) hx hb dX6_isLike_13 (by decide) (fun c13 => ?_) (fun c13 => ?_)
      · have hf := if_t c13 hf
        refine lv_iconst (v := 0) hx hb dX6_isLike_36 (by decide) ?_
        refine lv_istore_n (lv' := [(3, .int 0), (0, .ref (A 0)), (1, .int x1), (2, .ref (A 15)), (4, .int x4)]) hx hb dX6_isLike_37 rfl hl (by decide) rfl (fun ls hl => ?_)
        refine lv_iinc (v := x4 + 1) (lv' := [(4, .int (x4 + 1)), (3, .int 0), (0, .ref (A 0)), (1, .int x1), (2, .ref (A 15))]) hx hb dX6_isLike_38 hl (k := 4) rfl rfl (by decide) rfl (fun ls hl => ?_)
        refine lv_goto (tgt := 5) hx hb dX6_isLike_41 (by decide) ?_
        exact hk5 _ hf H locs hP hD hS ls (lv_sub hl [2, 3, 4, 1, 0] rfl)
      · have hf := if_f c13 hf
        refine lv_aload_n hx hb dX6_isLike_16 rfl (lv_at hl 2 rfl) ?_
        refine lv_iload hx hb dX6_isLike_17 (lv_at hl 4 rfl) ?_
        obtain ⟨c19, hf⟩ := ck_t hf
        refine va_iald (f := mm 16) hx hb hK hP 15 0 (gX6_15 _ _ _ _) rfl (inb_in c19) dX6_isLike_19 ?_
        refine lv_aload_n hx hb dX6_isLike_20 rfl (lv_at hl 0 rfl) ?_
        refine ld_f S iX6 hK hP 0 36 (.ref (A 34)) (gX6_0 _ _ _ _) rfl (by decide) k114 rfl rfl dX6_isLike_21 ?_
        refine lv_iload_n hx hb dX6_isLike_24 rfl (lv_at hl 1 rfl) ?_
        refine lv_iload hx hb dX6_isLike_25 (lv_at hl 4 rfl) ?_
        refine lv_iadd hx hb dX6_isLike_27 ?_
        obtain ⟨c28, hf⟩ := ck_t hf
        refine va_iald (f := mm 36) hx hb hK hP 34 0 (gX6_34 _ _ _ _) rfl (inb_in c28) dX6_isLike_28 ?_
        refine lv_icmp_ne (tgt := 36) hx hb dX6_isLike_29 (by decide) (fun c29 => ?_) (fun c29 => ?_)
        · have hf := if_f c29 hf
          refine lv_iconst (v := 0) hx hb dX6_isLike_36 (by decide) ?_
          refine lv_istore_n (lv' := [(3, .int 0), (0, .ref (A 0)), (1, .int x1), (2, .ref (A 15)), (4, .int x4)]) hx hb dX6_isLike_37 rfl hl (by decide) rfl (fun ls hl => ?_)
          refine lv_iinc (v := x4 + 1) (lv' := [(4, .int (x4 + 1)), (3, .int 0), (0, .ref (A 0)), (1, .int x1), (2, .ref (A 15))]) hx hb dX6_isLike_38 hl (k := 4) rfl rfl (by decide) rfl (fun ls hl => ?_)
          refine lv_goto (tgt := 5) hx hb dX6_isLike_41 (by decide) ?_
          exact hk5 _ hf H locs hP hD hS ls (lv_sub hl [2, 3, 4, 1, 0] rfl)
        · have hf := if_t c29 hf
          refine lv_iconst (v := 1) hx hb dX6_isLike_32 (by decide) ?_
          refine lv_goto (tgt := 37) hx hb dX6_isLike_33 (by decide) ?_
          refine lv_istore_n (lv' := [(3, .int 1), (0, .ref (A 0)), (1, .int x1), (2, .ref (A 15)), (4, .int x4)]) hx hb dX6_isLike_37 rfl hl (by decide) rfl (fun ls hl => ?_)
          refine lv_iinc (v := x4 + 1) (lv' := [(4, .int (x4 + 1)), (3, .int 1), (0, .ref (A 0)), (1, .int x1), (2, .ref (A 15))]) hx hb dX6_isLike_38 hl (k := 4) rfl rfl (by decide) rfl (fun ls hl => ?_)
          refine lv_goto (tgt := 5) hx hb dX6_isLike_41 (by decide) ?_
          exact hk5 _ hf H locs hP hD hS ls (lv_sub hl [2, 3, 4, 1, 0] rfl)
  intro H locs hP hD hS ls hl
  have hl : lv_has ls 5 [(0, .ref (A 0)), (1, .int x1), (2, .ref (A 15))] := hl
  unfold fX6_isLike_k15 at hf
  refine lv_iconst (v := 1) hx hb dX6_isLike_0 (by decide) ?_
  refine lv_istore_n (lv' := [(3, .int 1), (0, .ref (A 0)), (1, .int x1), (2, .ref (A 15))]) hx hb dX6_isLike_1 rfl hl (by decide) rfl (fun ls hl => ?_)
  refine lv_iconst (v := 0) hx hb dX6_isLike_2 (by decide) ?_
  refine lv_istore (lv' := [(4, .int 0), (3, .int 1), (0, .ref (A 0)), (1, .int x1), (2, .ref (A 15))]) hx hb dX6_isLike_3 hl (by decide) rfl (fun ls hl => ?_)
  exact B5 _ _ _ hf H locs hP hD hS ls (lv_sub hl [2, 3, 4, 1, 0] rfl)
set_option maxHeartbeats 4000000 in
set_option maxRecDepth 100000 in
theorem mX6_isLike_k16 (l : Launch) (D : va_G) (cI cZ : ClassId) (A : Nat → Nat)  (mm : St) (x1 : Int32) (sz : Nat) (res : Int32) (hf : fX6_isLike_k16 mm x1 = some res) : Met l yX6_isLike wsX6_isLike ({ frames := 0, cells := 0, slots := 0, locals := 0 }) (mP D (tysX cI cZ) [.ref (A 0), .int x1, .ref (A 16)] (wX6 cI cZ A mm) sz) (mQi D res (wX6 cI cZ A mm) (wX6 cI cZ A mm) sz) 0 0 (va_A (wX6 cI cZ A mm) sz) := by
  refine mkM_i (cc := cX6_isLike) (maxL := 5) (own := RX6) (by decide +kernel) rfl rfl (Nat.le_of_ble_eq_true rfl) ?_
  intro p e s m args below meth c A0 Q S hK hG hA hR
  obtain ⟨hx, hb, hml, hown, hts⟩ := id S
  have k114 := hts (.fieldLink RX6 114 "SwitchFloorModel" "kept" "[I") (by decide +kernel)
  have iX6 : ∀ w ∈ wsX60, w ∈ wsX6_isLike := by decide +kernel
  have B5 : ∀ (x1 : Int32) (x3 : Int32) (x4 : Int32), fX6_isLike_k16_L5 mm x1 x3 x4 = some res → Bk p l e ({ frames := 0, cells := 0, slots := 0, locals := 0 }) s m args below meth c Q A0 D 5 0 0 (wX6 cI cZ A mm) [(0, .ref (A 0)), (1, .int x1), (2, .ref (A 16)), (3, .int x3), (4, .int x4)] 5 [] := by
    intro x1 x3 x4 hf
    refine loop_ind (step := (fun k a => fX6_isLike_k16_S5 k mm x1 (a.1) (a.2))) (fun a => Bk p l e ({ frames := 0, cells := 0, slots := 0, locals := 0 }) s m args below meth c Q A0 D 5 0 0 (wX6 cI cZ A mm) [(0, .ref (A 0)), (1, .int x1), (2, .ref (A 16)), (3, .int (a.1)), (4, .int (a.2))] 5 []) ?_ _ _ hf
    clear hf
    intro k5 hk5 a hf
    obtain ⟨x3_, x4_⟩ := a
    clear x3 x4
    obtain ⟨x3, e_⟩ : ∃ z, z = x3_ := ⟨_, rfl⟩
    subst e_
    obtain ⟨x4, e_⟩ : ∃ z, z = x4_ := ⟨_, rfl⟩
    subst e_
    have hf : fX6_isLike_k16_S5 k5 mm x1 x3 x4 = some res := hf
    show Bk p l e ({ frames := 0, cells := 0, slots := 0, locals := 0 }) s m args below meth c Q A0 D 5 0 0 (wX6 cI cZ A mm) [(0, .ref (A 0)), (1, .int x1), (2, .ref (A 16)), (3, .int x3), (4, .int x4)] 5 []
    unfold fX6_isLike_k16_S5 at hf
    intro H locs hP hD hS ls hl
    refine lv_iload hx hb dX6_isLike_5 (lv_at hl 4 rfl) ?_
    refine lv_aload_n hx hb dX6_isLike_7 rfl (lv_at hl 2 rfl) ?_
    refine va_alen (v := 6) hx hb hK hP 16 0 (gX6_16 _ _ _ _) rfl rfl dX6_isLike_8 ?_
    refine lv_icmp_ge (tgt := 44) hx hb dX6_isLike_9 (by decide) (fun c9 => ?_) (fun c9 => ?_)
    · have hf := if_t c9 hf
      refine lv_iload_n hx hb dX6_isLike_44 rfl (lv_at hl 3 rfl) ?_
      obtain ⟨c45, hf⟩ := ck_t hf
      exact hR _ ls H locs _ _ (congrArg (fun q => q) (Option.some.inj hf)) rfl (isb_n c45) dX6_isLike_45 hP hD hS
    · have hf := if_f c9 hf
      refine lv_iload_n hx hb dX6_isLike_12 rfl (lv_at hl 3 rfl) ?_
      refine lv_if_eq (tgt := 36) hx hb dX6_isLike_13 (by decide) (fun c13 => ?_) (fun c13 => ?_)
      · have hf := if_t c13 hf
        refine lv_iconst (v := 0) hx hb dX6_isLike_36 (by decide) ?_
        refine lv_istore_n (lv' := [(3, .int 0), (0, .ref (A 0)), (1, .int x1), (2, .ref (A 16)), (4, .int x4)]) hx hb dX6_isLike_37 rfl hl (by decide) rfl (fun ls hl => ?_)
        refine lv_iinc (v := x4 + 1) (lv' := [(4, .int (x4 + 1)), (3, .int 0), (0, .ref (A 0)), (1, .int x1), (2, .ref (A 16))]) hx hb dX6_isLike_38 hl (k := 4) rfl rfl (by decide) rfl (fun ls hl => ?_)
        refine lv_goto (tgt := 5) hx hb dX6_isLike_41 (by decide) ?_
        exact hk5 _ hf H locs hP hD hS ls (lv_sub hl [2, 3, 4, 1, 0] rfl)
      · have hf := if_f c13 hf
        refine lv_aload_n hx hb dX6_isLike_16 rfl (lv_at hl 2 rfl) ?_
        refine lv_iload hx hb dX6_isLike_17 (lv_at hl 4 rfl) ?_
        obtain ⟨c19, hf⟩ := ck_t hf
        refine va_iald (f := mm 17) hx hb hK hP 16 0 (gX6_16 _ _ _ _) rfl (inb_in c19) dX6_isLike_19 ?_
        refine lv_aload_n hx hb dX6_isLike_20 rfl (lv_at hl 0 rfl) ?_
        refine ld_f S iX6 hK hP 0 36 (.ref (A 34)) (gX6_0 _ _ _ _) rfl (by decide) k114 rfl rfl dX6_isLike_21 ?_
        refine lv_iload_n hx hb dX6_isLike_24 rfl (lv_at hl 1 rfl) ?_
        refine lv_iload hx hb dX6_isLike_25 (lv_at hl 4 rfl) ?_
        refine lv_iadd hx hb dX6_isLike_27 ?_
        obtain ⟨c28, hf⟩ := ck_t hf
        refine va_iald (f := mm 36) hx hb hK hP 34 0 (gX6_34 _ _ _ _) rfl (inb_in c28) dX6_isLike_28 ?_
        refine lv_icmp_ne (tgt := 36) hx hb dX6_isLike_29 (by decide) (fun c29 => ?_) (fun c29 => ?_)
        · have hf := if_f c29 hf
          refine lv_iconst (v := 0) hx hb dX6_isLike_36 (by decide) ?_
          refine lv_istore_n (lv' := [(3, .int 0), (0, .ref (A 0)), (1, .int x1), (2, .ref (A 16)), (4, .int x4)]) hx hb dX6_isLike_37 rfl hl (by decide) rfl (fun ls hl => ?_)
          refine lv_iinc (v := x4 + 1) (lv' := [(4, .int (x4 + 1)), (3, .int 0), (0, .ref (A 0)), (1, .int x1), (2, .ref (A 16))]) hx hb dX6_isLike_38 hl (k := 4) rfl rfl (by decide) rfl (fun ls hl => ?_)
          refine lv_goto (tgt := 5) hx hb dX6_isLike_41 (by decide) ?_
          exact hk5 _ hf H locs hP hD hS ls (lv_sub hl [2, 3, 4, 1, 0] rfl)
        · have hf := if_t c29 hf
          refine lv_iconst (v := 1) hx hb dX6_isLike_32 (by decide) ?_
          refine lv_goto (tgt := 37) hx hb dX6_isLike_33 (by decide) ?_
          refine lv_istore_n (lv' := [(3, .int 1), (0, .ref (A 0)), (1, .int x1), (2, .ref (A 16)), (4, .int x4)]) hx hb dX6_isLike_37 rfl hl (by decide) rfl (fun ls hl => ?_)
          refine lv_iinc (v := x4 + 1) (lv' := [(4, .int (x4 + 1)), (3, .int 1), (0, .ref (A 0)), (1, .int x1), (2, .ref (A 16))]) hx hb dX6_isLike_38 hl (k := 4) rfl rfl (by decide) rfl (fun ls hl => ?_)
          refine lv_goto (tgt := 5) hx hb dX6_isLike_41 (by decide) ?_
          exact hk5 _ hf H locs hP hD hS ls (lv_sub hl [2, 3, 4, 1, 0] rfl)
  intro H locs hP hD hS ls hl
  have hl : lv_has ls 5 [(0, .ref (A 0)), (1, .int x1), (2, .ref (A 16))] := hl
  unfold fX6_isLike_k16 at hf
  refine lv_iconst (v := 1) hx hb dX6_isLike_0 (by decide) ?_
  refine lv_istore_n (lv' := [(3, .int 1), (0, .ref (A 0)), (1, .int x1), (2, .ref (A 16))]) hx hb dX6_isLike_1 rfl hl (by decide) rfl (fun ls hl => ?_)
  refine lv_iconst (v := 0) hx hb dX6_isLike_2 (by decide) ?_
  refine lv_istore (lv' := [(4, .int 0), (3, .int 1), (0, .ref (A 0)), (1, .int x1), (2, .ref (A 16))]) hx hb dX6_isLike_3 hl (by decide) rfl (fun ls hl => ?_)
  exact B5 _ _ _ hf H locs hP hD hS ls (lv_sub hl [2, 3, 4, 1, 0] rfl)
set_option maxHeartbeats 4000000 in
set_option maxRecDepth 100000 in
theorem mX6_isLike_k17 (l : Launch) (D : va_G) (cI cZ : ClassId) (A : Nat → Nat)  (mm : St) (x1 : Int32) (sz : Nat) (res : Int32) (hf : fX6_isLike_k17 mm x1 = some res) : Met l yX6_isLike wsX6_isLike ({ frames := 0, cells := 0, slots := 0, locals := 0 }) (mP D (tysX cI cZ) [.ref (A 0), .int x1, .ref (A 17)] (wX6 cI cZ A mm) sz) (mQi D res (wX6 cI cZ A mm) (wX6 cI cZ A mm) sz) 0 0 (va_A (wX6 cI cZ A mm) sz) := by
  refine mkM_i (cc := cX6_isLike) (maxL := 5) (own := RX6) (by decide +kernel) rfl rfl (Nat.le_of_ble_eq_true rfl) ?_
  intro p e s m args below meth c A0 Q S hK hG hA hR
  obtain ⟨hx, hb, hml, hown, hts⟩ := id S
  have k114 := hts (.fieldLink RX6 114 "SwitchFloorModel" "kept" "[I") (by decide +kernel)
  have iX6 : ∀ w ∈ wsX60, w ∈ wsX6_isLike := by decide +kernel
  have B5 : ∀ (x1 : Int32) (x3 : Int32) (x4 : Int32), fX6_isLike_k17_L5 mm x1 x3 x4 = some res → Bk p l e ({ frames := 0, cells := 0, slots := 0, locals := 0 }) s m args below meth c Q A0 D 5 0 0 (wX6 cI cZ A mm) [(0, .ref (A 0)), (1, .int x1), (2, .ref (A 17)), (3, .int x3), (4, .int x4)] 5 [] := by
    intro x1 x3 x4 hf
    refine loop_ind (step := (fun k a => fX6_isLike_k17_S5 k mm x1 (a.1) (a.2))) (fun a => Bk p l e ({ frames := 0, cells := 0, slots := 0, locals := 0 }) s m args below meth c Q A0 D 5 0 0 (wX6 cI cZ A mm) [(0, .ref (A 0)), (1, .int x1), (2, .ref (A 17)), (3, .int (a.1)), (4, .int (a.2))] 5 []) ?_ _ _ hf
    clear hf
    intro k5 hk5 a hf
    obtain ⟨x3_, x4_⟩ := a
    clear x3 x4
    obtain ⟨x3, e_⟩ : ∃ z, z = x3_ := ⟨_, rfl⟩
    subst e_
    obtain ⟨x4, e_⟩ : ∃ z, z = x4_ := ⟨_, rfl⟩
    subst e_
    have hf : fX6_isLike_k17_S5 k5 mm x1 x3 x4 = some res := hf
    show Bk p l e ({ frames := 0, cells := 0, slots := 0, locals := 0 }) s m args below meth c Q A0 D 5 0 0 (wX6 cI cZ A mm) [(0, .ref (A 0)), (1, .int x1), (2, .ref (A 17)), (3, .int x3), (4, .int x4)] 5 []
    unfold fX6_isLike_k17_S5 at hf
    intro H locs hP hD hS ls hl
    refine lv_iload hx hb dX6_isLike_5 (lv_at hl 4 rfl) ?_
    refine lv_aload_n hx hb dX6_isLike_7 rfl (lv_at hl 2 rfl) ?_
    refine va_alen (v := 6) hx hb hK hP 17 0 (gX6_17 _ _ _ _) rfl rfl dX6_isLike_8 ?_
    refine lv_icmp_ge (tgt := 44) hx hb dX6_isLike_9 (by decide) (fun c9 => ?_) (fun c9 => ?_)
    · have hf := if_t c9 hf
      refine lv_iload_n hx hb dX6_isLike_44 rfl (lv_at hl 3 rfl) ?_
      obtain ⟨c45, hf⟩ := ck_t hf
      exact hR _ ls H locs _ _ (congrArg (fun q => q) (Option.some.inj hf)) rfl (isb_n c45) dX6_isLike_45 hP hD hS
    · have hf := if_f c9 hf
      refine lv_iload_n hx hb dX6_isLike_12 rfl (lv_at hl 3 rfl) ?_
      refine lv_if_eq (tgt := 36) hx hb dX6_isLike_13 (by decide) (fun c13 => ?_) (fun c13 => ?_)
      · have hf := if_t c13 hf
        refine lv_iconst (v := 0) hx hb dX6_isLike_36 (by decide) ?_
        refine lv_istore_n (lv' := [(3, .int 0), (0, .ref (A 0)), (1, .int x1), (2, .ref (A 17)), (4, .int x4)]) hx hb dX6_isLike_37 rfl hl (by decide) rfl (fun ls hl => ?_)
        refine lv_iinc (v := x4 + 1) (lv' := [(4, .int (x4 + 1)), (3, .int 0), (0, .ref (A 0)), (1, .int x1), (2, .ref (A 17))]) hx hb dX6_isLike_38 hl (k := 4) rfl rfl (by decide) rfl (fun ls hl => ?_)
        refine lv_goto (tgt := 5) hx hb dX6_isLike_41 (by decide) ?_
        exact hk5 _ hf H locs hP hD hS ls (lv_sub hl [2, 3, 4, 1, 0] rfl)
      · have hf := if_f c13 hf
        refine lv_aload_n hx hb dX6_isLike_16 rfl (lv_at hl 2 rfl) ?_
        refine lv_iload hx hb dX6_isLike_17 (lv_at hl 4 rfl) ?_
        obtain ⟨c19, hf⟩ := ck_t hf
        refine va_iald (f := mm 18) hx hb hK hP 17 0 (gX6_17 _ _ _ _) rfl (inb_in c19) dX6_isLike_19 ?_
        refine lv_aload_n hx hb dX6_isLike_20 rfl (lv_at hl 0 rfl) ?_
        refine ld_f S iX6 hK hP 0 36 (.ref (A 34)) (gX6_0 _ _ _ _) rfl (by decide) k114 rfl rfl dX6_isLike_21 ?_
        refine lv_iload_n hx hb dX6_isLike_24 rfl (lv_at hl 1 rfl) ?_
        refine lv_iload hx hb dX6_isLike_25 (lv_at hl 4 rfl) ?_
        refine lv_iadd hx hb dX6_isLike_27 ?_
        obtain ⟨c28, hf⟩ := ck_t hf
        refine va_iald (f := mm 36) hx hb hK hP 34 0 (gX6_34 _ _ _ _) rfl (inb_in c28) dX6_isLike_28 ?_
        refine lv_icmp_ne (tgt := 36) hx hb dX6_isLike_29 (by decide) (fun c29 => ?_) (fun c29 => ?_)
        · have hf := if_f c29 hf
          refine lv_iconst (v := 0) hx hb dX6_isLike_36 (by decide) ?_
          refine lv_istore_n (lv' := [(3, .int 0), (0, .ref (A 0)), (1, .int x1), (2, .ref (A 17)), (4, .int x4)]) hx hb dX6_isLike_37 rfl hl (by decide) rfl (fun ls hl => ?_)
          refine lv_iinc (v := x4 + 1) (lv' := [(4, .int (x4 + 1)), (3, .int 0), (0, .ref (A 0)), (1, .int x1), (2, .ref (A 17))]) hx hb dX6_isLike_38 hl (k := 4) rfl rfl (by decide) rfl (fun ls hl => ?_)
          refine lv_goto (tgt := 5) hx hb dX6_isLike_41 (by decide) ?_
          exact hk5 _ hf H locs hP hD hS ls (lv_sub hl [2, 3, 4, 1, 0] rfl)
        · have hf := if_t c29 hf
          refine lv_iconst (v := 1) hx hb dX6_isLike_32 (by decide) ?_
          refine lv_goto (tgt := 37) hx hb dX6_isLike_33 (by decide) ?_
          refine lv_istore_n (lv' := [(3, .int 1), (0, .ref (A 0)), (1, .int x1), (2, .ref (A 17)), (4, .int x4)]) hx hb dX6_isLike_37 rfl hl (by decide) rfl (fun ls hl => ?_)
          refine lv_iinc (v := x4 + 1) (lv' := [(4, .int (x4 + 1)), (3, .int 1), (0, .ref (A 0)), (1, .int x1), (2, .ref (A 17))]) hx hb dX6_isLike_38 hl (k := 4) rfl rfl (by decide) rfl (fun ls hl => ?_)
          refine lv_goto (tgt := 5) hx hb dX6_isLike_41 (by decide) ?_
          exact hk5 _ hf H locs hP hD hS ls (lv_sub hl [2, 3, 4, 1, 0] rfl)
  intro H locs hP hD hS ls hl
  have hl : lv_has ls 5 [(0, .ref (A 0)), (1, .int x1), (2, .ref (A 17))] := hl
  unfold fX6_isLike_k17 at hf
  refine lv_iconst (v := 1) hx hb dX6_isLike_0 (by decide) ?_
  refine lv_istore_n (lv' := [(3, .int 1), (0, .ref (A 0)), (1, .int x1), (2, .ref (A 17))]) hx hb dX6_isLike_1 rfl hl (by decide) rfl (fun ls hl => ?_)
  refine lv_iconst (v := 0) hx hb dX6_isLike_2 (by decide) ?_
  refine lv_istore (lv' := [(4, .int 0), (3, .int 1), (0, .ref (A 0)), (1, .int x1), (2, .ref (A 17))]) hx hb dX6_isLike_3 hl (by decide) rfl (fun ls hl => ?_)
  exact B5 _ _ _ hf H locs hP hD hS ls (lv_sub hl [2, 3, 4, 1, 0] rfl)
set_option maxHeartbeats 4000000 in
set_option maxRecDepth 100000 in
theorem mX6_isLike_k18 (l : Launch) (D : va_G) (cI cZ : ClassId) (A : Nat → Nat)  (mm : St) (x1 : Int32) (sz : Nat) (res : Int32) (hf : fX6_isLike_k18 mm x1 = some res) : Met l yX6_isLike wsX6_isLike ({ frames := 0, cells := 0, slots := 0, locals := 0 }) (mP D (tysX cI cZ) [.ref (A 0), .int x1, .ref (A 18)] (wX6 cI cZ A mm) sz) (mQi D res (wX6 cI cZ A mm) (wX6 cI cZ A mm) sz) 0 0 (va_A (wX6 cI cZ A mm) sz) := by
  refine mkM_i (cc := cX6_isLike) (maxL := 5) (own := RX6) (by decide +kernel) rfl rfl (Nat.le_of_ble_eq_true rfl) ?_
  intro p e s m args below meth c A0 Q S hK hG hA hR
  obtain ⟨hx, hb, hml, hown, hts⟩ := id S
  have k114 := hts (.fieldLink RX6 114 "SwitchFloorModel" "kept" "[I") (by decide +kernel)
  have iX6 : ∀ w ∈ wsX60, w ∈ wsX6_isLike := by decide +kernel
  have B5 : ∀ (x1 : Int32) (x3 : Int32) (x4 : Int32), fX6_isLike_k18_L5 mm x1 x3 x4 = some res → Bk p l e ({ frames := 0, cells := 0, slots := 0, locals := 0 }) s m args below meth c Q A0 D 5 0 0 (wX6 cI cZ A mm) [(0, .ref (A 0)), (1, .int x1), (2, .ref (A 18)), (3, .int x3), (4, .int x4)] 5 [] := by
    intro x1 x3 x4 hf
    refine loop_ind (step := (fun k a => fX6_isLike_k18_S5 k mm x1 (a.1) (a.2))) (fun a => Bk p l e ({ frames := 0, cells := 0, slots := 0, locals := 0 }) s m args below meth c Q A0 D 5 0 0 (wX6 cI cZ A mm) [(0, .ref (A 0)), (1, .int x1), (2, .ref (A 18)), (3, .int (a.1)), (4, .int (a.2))] 5 []) ?_ _ _ hf
    clear hf
    intro k5 hk5 a hf
    obtain ⟨x3_, x4_⟩ := a
    clear x3 x4
    obtain ⟨x3, e_⟩ : ∃ z, z = x3_ := ⟨_, rfl⟩
    subst e_
    obtain ⟨x4, e_⟩ : ∃ z, z = x4_ := ⟨_, rfl⟩
    subst e_
    have hf : fX6_isLike_k18_S5 k5 mm x1 x3 x4 = some res := hf
    show Bk p l e ({ frames := 0, cells := 0, slots := 0, locals := 0 }) s m args below meth c Q A0 D 5 0 0 (wX6 cI cZ A mm) [(0, .ref (A 0)), (1, .int x1), (2, .ref (A 18)), (3, .int x3), (4, .int x4)] 5 []
    unfold fX6_isLike_k18_S5 at hf
    intro H locs hP hD hS ls hl
    refine lv_iload hx hb dX6_isLike_5 (lv_at hl 4 rfl) ?_
    refine lv_aload_n hx hb dX6_isLike_7 rfl (lv_at hl 2 rfl) ?_
    refine va_alen (v := 6) hx hb hK hP 18 0 (gX6_18 _ _ _ _) rfl rfl dX6_isLike_8 ?_
    refine lv_icmp_ge (tgt := 44) hx hb dX6_isLike_9 (by decide) (fun c9 => ?_) (fun c9 => ?_)
    · have hf := if_t c9 hf
      refine lv_iload_n hx hb dX6_isLike_44 rfl (lv_at hl 3 rfl) ?_
      obtain ⟨c45, hf⟩ := ck_t hf
      exact hR _ ls H locs _ _ (congrArg (fun q => q) (Option.some.inj hf)) rfl (isb_n c45) dX6_isLike_45 hP hD hS
    · have hf := if_f c9 hf
      refine lv_iload_n hx hb dX6_isLike_12 rfl (lv_at hl 3 rfl) ?_
      refine lv_if_eq (tgt := 36) hx hb dX6_isLike_13 (by decide) (fun c13 => ?_) (fun c13 => ?_)
      · have hf := if_t c13 hf
        refine lv_iconst (v := 0) hx hb dX6_isLike_36 (by decide) ?_
        refine lv_istore_n (lv' := [(3, .int 0), (0, .ref (A 0)), (1, .int x1), (2, .ref (A 18)), (4, .int x4)]) hx hb dX6_isLike_37 rfl hl (by decide) rfl (fun ls hl => ?_)
        refine lv_iinc (v := x4 + 1) (lv' := [(4, .int (x4 + 1)), (3, .int 0), (0, .ref (A 0)), (1, .int x1), (2, .ref (A 18))]) hx hb dX6_isLike_38 hl (k := 4) rfl rfl (by decide) rfl (fun ls hl => ?_)
        refine lv_goto (tgt := 5) hx hb dX6_isLike_41 (by decide) ?_
        exact hk5 _ hf H locs hP hD hS ls (lv_sub hl [2, 3, 4, 1, 0] rfl)
      · have hf := if_f c13 hf
        refine lv_aload_n hx hb dX6_isLike_16 rfl (lv_at hl 2 rfl) ?_
        refine lv_iload hx hb dX6_isLike_17 (lv_at hl 4 rfl) ?_
        obtain ⟨c19, hf⟩ := ck_t hf
        refine va_iald (f := mm 19) hx hb hK hP 18 0 (gX6_18 _ _ _ _) rfl (inb_in c19) dX6_isLike_19 ?_
        refine lv_aload_n hx hb dX6_isLike_20 rfl (lv_at hl 0 rfl) ?_
        refine ld_f S iX6 hK hP 0 36 (.ref (A 34)) (gX6_0 _ _ _ _) rfl (by decide) k114 rfl rfl dX6_isLike_21 ?_
        refine lv_iload_n hx hb dX6_isLike_24 rfl (lv_at hl 1 rfl) ?_
        refine lv_iload hx hb dX6_isLike_25 (lv_at hl 4 rfl) ?_
        refine lv_iadd hx hb dX6_isLike_27 ?_
        obtain ⟨c28, hf⟩ := ck_t hf
        refine va_iald (f := mm 36) hx hb hK hP 34 0 (gX6_34 _ _ _ _) rfl (inb_in c28) dX6_isLike_28 ?_
        refine lv_icmp_ne (tgt := 36) hx hb dX6_isLike_29 (by decide) (fun c29 => ?_) (fun c29 => ?_)
        · have hf := if_f c29 hf
          refine lv_iconst (v := 0) hx hb dX6_isLike_36 (by decide) ?_
          refine lv_istore_n (lv' := [(3, .int 0), (0, .ref (A 0)), (1, .int x1), (2, .ref (A 18)), (4, .int x4)]) hx hb dX6_isLike_37 rfl hl (by decide) rfl (fun ls hl => ?_)
          refine lv_iinc (v := x4 + 1) (lv' := [(4, .int (x4 + 1)), (3, .int 0), (0, .ref (A 0)), (1, .int x1), (2, .ref (A 18))]) hx hb dX6_isLike_38 hl (k := 4) rfl rfl (by decide) rfl (fun ls hl => ?_)
          refine lv_goto (tgt := 5) hx hb dX6_isLike_41 (by decide) ?_
          exact hk5 _ hf H locs hP hD hS ls (lv_sub hl [2, 3, 4, 1, 0] rfl)
        · have hf := if_t c29 hf
          refine lv_iconst (v := 1) hx hb dX6_isLike_32 (by decide) ?_
          refine lv_goto (tgt := 37) hx hb dX6_isLike_33 (by decide) ?_
          refine lv_istore_n (lv' := [(3, .int 1), (0, .ref (A 0)), (1, .int x1), (2, .ref (A 18)), (4, .int x4)]) hx hb dX6_isLike_37 rfl hl (by decide) rfl (fun ls hl => ?_)
          refine lv_iinc (v := x4 + 1) (lv' := [(4, .int (x4 + 1)), (3, .int 1), (0, .ref (A 0)), (1, .int x1), (2, .ref (A 18))]) hx hb dX6_isLike_38 hl (k := 4) rfl rfl (by decide) rfl (fun ls hl => ?_)
          refine lv_goto (tgt := 5) hx hb dX6_isLike_41 (by decide) ?_
          exact hk5 _ hf H locs hP hD hS ls (lv_sub hl [2, 3, 4, 1, 0] rfl)
  intro H locs hP hD hS ls hl
  have hl : lv_has ls 5 [(0, .ref (A 0)), (1, .int x1), (2, .ref (A 18))] := hl
  unfold fX6_isLike_k18 at hf
  refine lv_iconst (v := 1) hx hb dX6_isLike_0 (by decide) ?_
  refine lv_istore_n (lv' := [(3, .int 1), (0, .ref (A 0)), (1, .int x1), (2, .ref (A 18))]) hx hb dX6_isLike_1 rfl hl (by decide) rfl (fun ls hl => ?_)
  refine lv_iconst (v := 0) hx hb dX6_isLike_2 (by decide) ?_
  refine lv_istore (lv' := [(4, .int 0), (3, .int 1), (0, .ref (A 0)), (1, .int x1), (2, .ref (A 18))]) hx hb dX6_isLike_3 hl (by decide) rfl (fun ls hl => ?_)
  exact B5 _ _ _ hf H locs hP hD hS ls (lv_sub hl [2, 3, 4, 1, 0] rfl)
set_option maxHeartbeats 4000000 in
set_option maxRecDepth 100000 in
theorem mX6_isLike_k12 (l : Launch) (D : va_G) (cI cZ : ClassId) (A : Nat → Nat)  (mm : St) (x1 : Int32) (sz : Nat) (res : Int32) (hf : fX6_isLike_k12 mm x1 = some res) : Met l yX6_isLike wsX6_isLike ({ frames := 0, cells := 0, slots := 0, locals := 0 }) (mP D (tysX cI cZ) [.ref (A 0), .int x1, .ref (A 12)] (wX6 cI cZ A mm) sz) (mQi D res (wX6 cI cZ A mm) (wX6 cI cZ A mm) sz) 0 0 (va_A (wX6 cI cZ A mm) sz) := by
  refine mkM_i (cc := cX6_isLike) (maxL := 5) (own := RX6) (by decide +kernel) rfl rfl (Nat.le_of_ble_eq_true rfl) ?_
  intro p e s m args below meth c A0 Q S hK hG hA hR
  obtain ⟨hx, hb, hml, hown, hts⟩ := id S
  have k114 := hts (.fieldLink RX6 114 "SwitchFloorModel" "kept" "[I") (by decide +kernel)
  have iX6 : ∀ w ∈ wsX60, w ∈ wsX6_isLike := by decide +kernel
  have B5 : ∀ (x1 : Int32) (x3 : Int32) (x4 : Int32), fX6_isLike_k12_L5 mm x1 x3 x4 = some res → Bk p l e ({ frames := 0, cells := 0, slots := 0, locals := 0 }) s m args below meth c Q A0 D 5 0 0 (wX6 cI cZ A mm) [(0, .ref (A 0)), (1, .int x1), (2, .ref (A 12)), (3, .int x3), (4, .int x4)] 5 [] := by
    intro x1 x3 x4 hf
    refine loop_ind (step := (fun k a => fX6_isLike_k12_S5 k mm x1 (a.1) (a.2))) (fun a => Bk p l e ({ frames := 0, cells := 0, slots := 0, locals := 0 }) s m args below meth c Q A0 D 5 0 0 (wX6 cI cZ A mm) [(0, .ref (A 0)), (1, .int x1), (2, .ref (A 12)), (3, .int (a.1)), (4, .int (a.2))] 5 []) ?_ _ _ hf
    clear hf
    intro k5 hk5 a hf
    obtain ⟨x3_, x4_⟩ := a
    clear x3 x4
    obtain ⟨x3, e_⟩ : ∃ z, z = x3_ := ⟨_, rfl⟩
    subst e_
    obtain ⟨x4, e_⟩ : ∃ z, z = x4_ := ⟨_, rfl⟩
    subst e_
    have hf : fX6_isLike_k12_S5 k5 mm x1 x3 x4 = some res := hf
    show Bk p l e ({ frames := 0, cells := 0, slots := 0, locals := 0 }) s m args below meth c Q A0 D 5 0 0 (wX6 cI cZ A mm) [(0, .ref (A 0)), (1, .int x1), (2, .ref (A 12)), (3, .int x3), (4, .int x4)] 5 []
    unfold fX6_isLike_k12_S5 at hf
    intro H locs hP hD hS ls hl
    refine lv_iload hx hb dX6_isLike_5 (lv_at hl 4 rfl) ?_
    refine lv_aload_n hx hb dX6_isLike_7 rfl (lv_at hl 2 rfl) ?_
    refine va_alen (v := 30) hx hb hK hP 12 0 (gX6_12 _ _ _ _) rfl rfl dX6_isLike_8 ?_
    refine lv_icmp_ge (tgt := 44) hx hb dX6_isLike_9 (by decide) (fun c9 => ?_) (fun c9 => ?_)
    · have hf := if_t c9 hf
      refine lv_iload_n hx hb dX6_isLike_44 rfl (lv_at hl 3 rfl) ?_
      obtain ⟨c45, hf⟩ := ck_t hf
      exact hR _ ls H locs _ _ (congrArg (fun q => q) (Option.some.inj hf)) rfl (isb_n c45) dX6_isLike_45 hP hD hS
    · have hf := if_f c9 hf
      refine lv_iload_n hx hb dX6_isLike_12 rfl (lv_at hl 3 rfl) ?_
      refine lv_if_eq (tgt := 36) hx hb dX6_isLike_13 (by decide) (fun c13 => ?_) (fun c13 => ?_)
      · have hf := if_t c13 hf
        refine lv_iconst (v := 0) hx hb dX6_isLike_36 (by decide) ?_
        refine lv_istore_n (lv' := [(3, .int 0), (0, .ref (A 0)), (1, .int x1), (2, .ref (A 12)), (4, .int x4)]) hx hb dX6_isLike_37 rfl hl (by decide) rfl (fun ls hl => ?_)
        refine lv_iinc (v := x4 + 1) (lv' := [(4, .int (x4 + 1)), (3, .int 0), (0, .ref (A 0)), (1, .int x1), (2, .ref (A 12))]) hx hb dX6_isLike_38 hl (k := 4) rfl rfl (by decide) rfl (fun ls hl => ?_)
        refine lv_goto (tgt := 5) hx hb dX6_isLike_41 (by decide) ?_
        exact hk5 _ hf H locs hP hD hS ls (lv_sub hl [2, 3, 4, 1, 0] rfl)
      · have hf := if_f c13 hf
        refine lv_aload_n hx hb dX6_isLike_16 rfl (lv_at hl 2 rfl) ?_
        refine lv_iload hx hb dX6_isLike_17 (lv_at hl 4 rfl) ?_
        obtain ⟨c19, hf⟩ := ck_t hf
        refine va_iald (f := mm 13) hx hb hK hP 12 0 (gX6_12 _ _ _ _) rfl (inb_in c19) dX6_isLike_19 ?_
        refine lv_aload_n hx hb dX6_isLike_20 rfl (lv_at hl 0 rfl) ?_
        refine ld_f S iX6 hK hP 0 36 (.ref (A 34)) (gX6_0 _ _ _ _) rfl (by decide) k114 rfl rfl dX6_isLike_21 ?_
        refine lv_iload_n hx hb dX6_isLike_24 rfl (lv_at hl 1 rfl) ?_
        refine lv_iload hx hb dX6_isLike_25 (lv_at hl 4 rfl) ?_
        refine lv_iadd hx hb dX6_isLike_27 ?_
        obtain ⟨c28, hf⟩ := ck_t hf
        refine va_iald (f := mm 36) hx hb hK hP 34 0 (gX6_34 _ _ _ _) rfl (inb_in c28) dX6_isLike_28 ?_
        refine lv_icmp_ne (tgt := 36) hx hb dX6_isLike_29 (by decide) (fun c29 => ?_) (fun c29 => ?_)
        · have hf := if_f c29 hf
          refine lv_iconst (v := 0) hx hb dX6_isLike_36 (by decide) ?_
          refine lv_istore_n (lv' := [(3, .int 0), (0, .ref (A 0)), (1, .int x1), (2, .ref (A 12)), (4, .int x4)]) hx hb dX6_isLike_37 rfl hl (by decide) rfl (fun ls hl => ?_)
          refine lv_iinc (v := x4 + 1) (lv' := [(4, .int (x4 + 1)), (3, .int 0), (0, .ref (A 0)), (1, .int x1), (2, .ref (A 12))]) hx hb dX6_isLike_38 hl (k := 4) rfl rfl (by decide) rfl (fun ls hl => ?_)
          refine lv_goto (tgt := 5) hx hb dX6_isLike_41 (by decide) ?_
          exact hk5 _ hf H locs hP hD hS ls (lv_sub hl [2, 3, 4, 1, 0] rfl)
        · have hf := if_t c29 hf
          refine lv_iconst (v := 1) hx hb dX6_isLike_32 (by decide) ?_
          refine lv_goto (tgt := 37) hx hb dX6_isLike_33 (by decide) ?_
          refine lv_istore_n (lv' := [(3, .int 1), (0, .ref (A 0)), (1, .int x1), (2, .ref (A 12)), (4, .int x4)]) hx hb dX6_isLike_37 rfl hl (by decide) rfl (fun ls hl => ?_)
          refine lv_iinc (v := x4 + 1) (lv' := [(4, .int (x4 + 1)), (3, .int 1), (0, .ref (A 0)), (1, .int x1), (2, .ref (A 12))]) hx hb dX6_isLike_38 hl (k := 4) rfl rfl (by decide) rfl (fun ls hl => ?_)
          refine lv_goto (tgt := 5) hx hb dX6_isLike_41 (by decide) ?_
          exact hk5 _ hf H locs hP hD hS ls (lv_sub hl [2, 3, 4, 1, 0] rfl)
  intro H locs hP hD hS ls hl
  have hl : lv_has ls 5 [(0, .ref (A 0)), (1, .int x1), (2, .ref (A 12))] := hl
  unfold fX6_isLike_k12 at hf
  refine lv_iconst (v := 1) hx hb dX6_isLike_0 (by decide) ?_
  refine lv_istore_n (lv' := [(3, .int 1), (0, .ref (A 0)), (1, .int x1), (2, .ref (A 12))]) hx hb dX6_isLike_1 rfl hl (by decide) rfl (fun ls hl => ?_)
  refine lv_iconst (v := 0) hx hb dX6_isLike_2 (by decide) ?_
  refine lv_istore (lv' := [(4, .int 0), (3, .int 1), (0, .ref (A 0)), (1, .int x1), (2, .ref (A 12))]) hx hb dX6_isLike_3 hl (by decide) rfl (fun ls hl => ?_)
  exact B5 _ _ _ hf H locs hP hD hS ls (lv_sub hl [2, 3, 4, 1, 0] rfl)
set_option maxHeartbeats 4000000 in
set_option maxRecDepth 100000 in
theorem mX6_isAtRest (l : Launch) (D : va_G) (cI cZ : ClassId) (A : Nat → Nat)  (mm : St) (sz : Nat) (res : Int32 × St) (hf : fX6_isAtRest mm = some res) : Met l yX6_isAtRest wsX6_isAtRest ({ frames := 5, cells := 0, slots := 0, locals := 122 }) (mP D (tysX cI cZ) [.ref (A 0)] (wX6 cI cZ A mm) sz) (mQi D res.1 (wX6 cI cZ A mm) (wX6 cI cZ A (res.2)) sz) 0 0 (va_A (wX6 cI cZ A mm) sz) := by
  refine mkM_i (cc := cX6_isAtRest) (maxL := 5) (own := RX6) (by decide +kernel) rfl rfl (Nat.le_of_ble_eq_true rfl) ?_
  intro p e s m args below meth c A0 Q S hK hG hA hR
  obtain ⟨hx, hb, hml, hown, hts⟩ := id S
  have k126 := hts (.fieldLink RX6 126 "SwitchFloorModel" "thrown" "I") (by decide +kernel)
  have iX6 : ∀ w ∈ wsX60, w ∈ wsX6_isAtRest := by decide +kernel
  have k193 := hts (.fieldLink RX6 193 "SwitchFloorModel" "now" "I") (by decide +kernel)
  have k57 := hts (.fieldLink RX6 57 "SwitchFloorModel" "root" "[I") (by decide +kernel)
  have k45 := hts (.fieldLink RX6 45 "SwitchFloorModel" "isOpen" "[Z") (by decide +kernel)
  have k117 := hts (.fieldLink RX6 117 "SwitchFloorModel" "keptFlags" "[Z") (by decide +kernel)
  have k39 := hts (.fieldLink RX6 39 "SwitchFloorModel" "isShut" "[Z") (by decide +kernel)
  have k48 := hts (.fieldLink RX6 48 "SwitchFloorModel" "role" "[I") (by decide +kernel)
  have k60 := hts (.fieldLink RX6 60 "SwitchFloorModel" "far" "[I") (by decide +kernel)
  have k63 := hts (.fieldLink RX6 63 "SwitchFloorModel" "hops" "[I") (by decide +kernel)
  have k66 := hts (.fieldLink RX6 66 "SwitchFloorModel" "rootPort" "[I") (by decide +kernel)
  have B178 : ∀ (mm : St) (x1 : Int32) (x2 : Int32), fX6_isAtRest_J178 mm x1 x2 = some res → Bk p l e ({ frames := 5, cells := 0, slots := 0, locals := 122 }) s m args below meth c Q A0 D 5 0 0 (wX6 cI cZ A mm) [(0, .ref (A 0)), (1, .int x1), (2, .int x2)] 178 [] := by
    intro mm x1 x2 hf
    unfold fX6_isAtRest_J178 at hf
    intro H locs hP hD hS ls hl
    refine lv_aload_n hx hb dX6_isAtRest_178 rfl (lv_at hl 0 rfl) ?_
    refine lv_iload_n hx hb dX6_isAtRest_179 rfl (lv_at hl 1 rfl) ?_
    refine st_f S iX6 tyX6 tyX6_ok nmX6 hK hP hD hS 0 0 (sX6_0_0 _ _ _ _ _) (gX6_0 _ _ _ _) rfl (by decide) k193 rfl rfl (by decide +kernel) rfl dX6_isAtRest_180 (fun H locs hP hD hS => ?_)
    refine lv_aload_n hx hb dX6_isAtRest_183 rfl (lv_at hl 0 rfl) ?_
    refine lv_iconst (v := 1) hx hb dX6_isAtRest_184 (by decide) ?_
    obtain ⟨q185, h185, hf⟩ := bd_t hf
    refine cl_v (va_runV (As := [.int 1]) (rest := []) S (mX6_rows l D cI cZ A (iS mm 0 x1) 1 H.size q185 h185) (cwV 1 hts gX6_isAtRest_X6_rows rfl rfl rfl (by decide +kernel) ⟨Nat.le_of_ble_eq_true rfl, Nat.le_of_ble_eq_true rfl⟩) (mP_V (ci := 6) (Cut.self _ []) hP hD hK hG rfl (gX6_0 _ _ _ _)) rfl rfl hl.1 rfl (lv_room (Nat.le_of_ble_eq_true rfl)) dX6_isAtRest_185 ⟨Nat.le_refl _, Nat.le_refl _⟩) (Cut.self _ _) hP hD hS hA (fun H locs hP hD hS => ?_)
    refine lv_iload_n hx hb dX6_isAtRest_188 rfl (lv_at hl 2 rfl) ?_
    obtain ⟨c189, hf⟩ := ck_t hf
    exact hR _ ls H locs _ _ (congrArg (fun q => q.1) (Option.some.inj hf)) (congrArg (fun q => (wX6 cI cZ A (q.2))) (Option.some.inj hf)) (isb_n c189) dX6_isAtRest_189 hP hD hS
  have B140 : ∀ (mm : St) (x1 : Int32) (x2 : Int32) (x3 : Int32) (y0 : Int32) (k91 : (Int32 × Int32) → Option (Int32 × St)) (hk91 : ∀ a91, k91 a91 = some res → Bk p l e ({ frames := 5, cells := 0, slots := 0, locals := 122 }) s m args below meth c Q A0 D 5 0 0 (wX6 cI cZ A mm) [(0, .ref (A 0)), (1, .int x1), (2, .int (a91.1)), (3, .int (a91.2))] 91 []), fX6_isAtRest_J140 k91 mm x1 x2 x3 y0 = some res → Bk p l e ({ frames := 5, cells := 0, slots := 0, locals := 122 }) s m args below meth c Q A0 D 5 0 0 (wX6 cI cZ A mm) [(0, .ref (A 0)), (1, .int x1), (2, .int x2), (3, .int x3)] 140 [.int y0] := by
    intro mm x1 x2 x3 y0 k91 hk91 hf
    unfold fX6_isAtRest_J140 at hf
    intro H locs hP hD hS ls hl
    refine lv_istore (lv' := [(4, .int y0), (0, .ref (A 0)), (1, .int x1), (2, .int x2), (3, .int x3)]) hx hb dX6_isAtRest_140 hl (by decide) rfl (fun ls hl => ?_)
    refine lv_iload_n hx hb dX6_isAtRest_142 rfl (lv_at hl 3 rfl) ?_
    refine lv_if_eq (tgt := 170) hx hb dX6_isAtRest_143 (by decide) (fun c143 => ?_) (fun c143 => ?_)
    · have hf := if_t c143 hf
      refine lv_iconst (v := 0) hx hb dX6_isAtRest_170 (by decide) ?_
      refine lv_istore_n (lv' := [(2, .int 0), (4, .int y0), (0, .ref (A 0)), (1, .int x1), (3, .int x3)]) hx hb dX6_isAtRest_171 rfl hl (by decide) rfl (fun ls hl => ?_)
      refine lv_iinc (v := x3 + 1) (lv' := [(3, .int (x3 + 1)), (2, .int 0), (4, .int y0), (0, .ref (A 0)), (1, .int x1)]) hx hb dX6_isAtRest_172 hl (k := 4) rfl rfl (by decide) rfl (fun ls hl => ?_)
      refine lv_goto (tgt := 91) hx hb dX6_isAtRest_175 (by decide) ?_
      exact hk91 _ hf H locs hP hD hS ls (lv_sub hl [3, 4, 1, 0] rfl)
    · have hf := if_f c143 hf
      refine lv_aload_n hx hb dX6_isAtRest_146 rfl (lv_at hl 1 rfl) ?_
      refine ld_f S iX6 hK hP 0 12 (.ref (A 11)) (gX6_0 _ _ _ _) rfl (by decide) k45 rfl rfl dX6_isAtRest_147 ?_
      refine lv_iload_n hx hb dX6_isAtRest_150 rfl (lv_at hl 4 rfl) ?_
      obtain ⟨c151, hf⟩ := ck_t hf
      refine va_zald (f := mm 12) hx hb hK hP 11 1 (gX6_11 _ _ _ _) rfl (inb_in c151) dX6_isAtRest_151 ?_
      refine lv_aload_n hx hb dX6_isAtRest_152 rfl (lv_at hl 1 rfl) ?_
      refine ld_f S iX6 hK hP 0 37 (.ref (A 35)) (gX6_0 _ _ _ _) rfl (by decide) k117 rfl rfl dX6_isAtRest_153 ?_
      refine lv_iload_n hx hb dX6_isAtRest_156 rfl (lv_at hl 4 rfl) ?_
      obtain ⟨c157, hf⟩ := ck_t hf
      refine va_zald (f := mm 37) hx hb hK hP 35 1 (gX6_35 _ _ _ _) rfl (inb_in c157) dX6_isAtRest_157 ?_
      refine lv_icmp_ne (tgt := 170) hx hb dX6_isAtRest_158 (by decide) (fun c158 => ?_) (fun c158 => ?_)
      · have hf := if_f c158 hf
        refine lv_iconst (v := 0) hx hb dX6_isAtRest_170 (by decide) ?_
        refine lv_istore_n (lv' := [(2, .int 0), (4, .int y0), (0, .ref (A 0)), (1, .int x1), (3, .int x3)]) hx hb dX6_isAtRest_171 rfl hl (by decide) rfl (fun ls hl => ?_)
        refine lv_iinc (v := x3 + 1) (lv' := [(3, .int (x3 + 1)), (2, .int 0), (4, .int y0), (0, .ref (A 0)), (1, .int x1)]) hx hb dX6_isAtRest_172 hl (k := 4) rfl rfl (by decide) rfl (fun ls hl => ?_)
        refine lv_goto (tgt := 91) hx hb dX6_isAtRest_175 (by decide) ?_
        exact hk91 _ hf H locs hP hD hS ls (lv_sub hl [3, 4, 1, 0] rfl)
      · have hf := if_t c158 hf
        refine lv_iload hx hb dX6_isAtRest_161 (lv_at hl 0 rfl) ?_
        refine lv_if_ne (tgt := 170) hx hb dX6_isAtRest_163 (by decide) (fun c163 => ?_) (fun c163 => ?_)
        · have hf := if_f c163 hf
          refine lv_iconst (v := 0) hx hb dX6_isAtRest_170 (by decide) ?_
          refine lv_istore_n (lv' := [(2, .int 0), (4, .int y0), (0, .ref (A 0)), (1, .int x1), (3, .int x3)]) hx hb dX6_isAtRest_171 rfl hl (by decide) rfl (fun ls hl => ?_)
          refine lv_iinc (v := x3 + 1) (lv' := [(3, .int (x3 + 1)), (2, .int 0), (4, .int y0), (0, .ref (A 0)), (1, .int x1)]) hx hb dX6_isAtRest_172 hl (k := 4) rfl rfl (by decide) rfl (fun ls hl => ?_)
          refine lv_goto (tgt := 91) hx hb dX6_isAtRest_175 (by decide) ?_
          exact hk91 _ hf H locs hP hD hS ls (lv_sub hl [3, 4, 1, 0] rfl)
        · have hf := if_t c163 hf
          refine lv_iconst (v := 1) hx hb dX6_isAtRest_166 (by decide) ?_
          refine lv_goto (tgt := 171) hx hb dX6_isAtRest_167 (by decide) ?_
          refine lv_istore_n (lv' := [(2, .int 1), (4, .int y0), (0, .ref (A 0)), (1, .int x1), (3, .int x3)]) hx hb dX6_isAtRest_171 rfl hl (by decide) rfl (fun ls hl => ?_)
          refine lv_iinc (v := x3 + 1) (lv' := [(3, .int (x3 + 1)), (2, .int 1), (4, .int y0), (0, .ref (A 0)), (1, .int x1)]) hx hb dX6_isAtRest_172 hl (k := 4) rfl rfl (by decide) rfl (fun ls hl => ?_)
          refine lv_goto (tgt := 91) hx hb dX6_isAtRest_175 (by decide) ?_
          exact hk91 _ hf H locs hP hD hS ls (lv_sub hl [3, 4, 1, 0] rfl)
  have B139 : ∀ (mm : St) (x1 : Int32) (x2 : Int32) (x3 : Int32) (k91 : (Int32 × Int32) → Option (Int32 × St)) (hk91 : ∀ a91, k91 a91 = some res → Bk p l e ({ frames := 5, cells := 0, slots := 0, locals := 122 }) s m args below meth c Q A0 D 5 0 0 (wX6 cI cZ A mm) [(0, .ref (A 0)), (1, .int x1), (2, .int (a91.1)), (3, .int (a91.2))] 91 []), fX6_isAtRest_J139 k91 mm x1 x2 x3 = some res → Bk p l e ({ frames := 5, cells := 0, slots := 0, locals := 122 }) s m args below meth c Q A0 D 5 0 0 (wX6 cI cZ A mm) [(0, .ref (A 0)), (1, .int x1), (2, .int x2), (3, .int x3)] 139 [] := by
    intro mm x1 x2 x3 k91 hk91 hf
    unfold fX6_isAtRest_J139 at hf
    intro H locs hP hD hS ls hl
    refine lv_iconst (v := 0) hx hb dX6_isAtRest_139 (by decide) ?_
    exact B140 _ _ _ _ _ k91 hk91 hf H locs hP hD hS ls (lv_sub hl [0, 1, 2, 3] rfl)
  have B91 : ∀ (mm : St) (x1 : Int32) (x2 : Int32) (x3 : Int32), fX6_isAtRest_L91 mm x1 x2 x3 = some res → Bk p l e ({ frames := 5, cells := 0, slots := 0, locals := 122 }) s m args below meth c Q A0 D 5 0 0 (wX6 cI cZ A mm) [(0, .ref (A 0)), (1, .int x1), (2, .int x2), (3, .int x3)] 91 [] := by
    intro mm x1 x2 x3 hf
    refine loop_ind (step := (fun k a => fX6_isAtRest_S91 k mm x1 (a.1) (a.2))) (fun a => Bk p l e ({ frames := 5, cells := 0, slots := 0, locals := 122 }) s m args below meth c Q A0 D 5 0 0 (wX6 cI cZ A mm) [(0, .ref (A 0)), (1, .int x1), (2, .int (a.1)), (3, .int (a.2))] 91 []) ?_ _ _ hf
    clear hf
    intro k91 hk91 a hf
    obtain ⟨x2_, x3_⟩ := a
    clear x2 x3
    obtain ⟨x2, e_⟩ : ∃ z, z = x2_ := ⟨_, rfl⟩
    subst e_
    obtain ⟨x3, e_⟩ : ∃ z, z = x3_ := ⟨_, rfl⟩
    subst e_
    have hf : fX6_isAtRest_S91 k91 mm x1 x2 x3 = some res := hf
    show Bk p l e ({ frames := 5, cells := 0, slots := 0, locals := 122 }) s m args below meth c Q A0 D 5 0 0 (wX6 cI cZ A mm) [(0, .ref (A 0)), (1, .int x1), (2, .int x2), (3, .int x3)] 91 []
    unfold fX6_isAtRest_S91 at hf
    intro H locs hP hD hS ls hl
    refine lv_iload_n hx hb dX6_isAtRest_91 rfl (lv_at hl 3 rfl) ?_
    refine lv_bipush (v := 30) hx hb dX6_isAtRest_92 (by decide) ?_
    refine lv_icmp_ge (tgt := 178) hx hb dX6_isAtRest_94 (by decide) (fun c94 => ?_) (fun c94 => ?_)
    · have hf := if_t c94 hf
      exact B178 _ _ _ hf H locs hP hD hS ls (lv_sub hl [0, 1, 2] rfl)
    · have hf := if_f c94 hf
      refine lv_aload_n hx hb dX6_isAtRest_97 rfl (lv_at hl 0 rfl) ?_
      refine ld_f S iX6 hK hP 0 12 (.ref (A 11)) (gX6_0 _ _ _ _) rfl (by decide) k45 rfl rfl dX6_isAtRest_98 ?_
      refine lv_iload_n hx hb dX6_isAtRest_101 rfl (lv_at hl 3 rfl) ?_
      obtain ⟨c102, hf⟩ := ck_t hf
      refine va_zald (f := mm 12) hx hb hK hP 11 1 (gX6_11 _ _ _ _) rfl (inb_in c102) dX6_isAtRest_102 ?_
      refine lv_if_ne (tgt := 139) hx hb dX6_isAtRest_103 (by decide) (fun c103 => ?_) (fun c103 => ?_)
      · have hf := if_f c103 hf
        exact B139 _ _ _ _ k91 hk91 hf H locs hP hD hS ls (lv_sub hl [0, 1, 2, 3] rfl)
      · have hf := if_t c103 hf
        refine lv_aload_n hx hb dX6_isAtRest_106 rfl (lv_at hl 0 rfl) ?_
        refine ld_f S iX6 hK hP 0 10 (.ref (A 9)) (gX6_0 _ _ _ _) rfl (by decide) k39 rfl rfl dX6_isAtRest_107 ?_
        refine lv_iload_n hx hb dX6_isAtRest_110 rfl (lv_at hl 3 rfl) ?_
        obtain ⟨c111, hf⟩ := ck_t hf
        refine va_zald (f := mm 10) hx hb hK hP 9 1 (gX6_9 _ _ _ _) rfl (inb_in c111) dX6_isAtRest_111 ?_
        refine lv_if_ne (tgt := 139) hx hb dX6_isAtRest_112 (by decide) (fun c112 => ?_) (fun c112 => ?_)
        · have hf := if_f c112 hf
          exact B139 _ _ _ _ k91 hk91 hf H locs hP hD hS ls (lv_sub hl [0, 1, 2, 3] rfl)
        · have hf := if_t c112 hf
          refine lv_aload_n hx hb dX6_isAtRest_115 rfl (lv_at hl 0 rfl) ?_
          refine ld_f S iX6 hK hP 0 13 (.ref (A 12)) (gX6_0 _ _ _ _) rfl (by decide) k48 rfl rfl dX6_isAtRest_116 ?_
          refine lv_iload_n hx hb dX6_isAtRest_119 rfl (lv_at hl 3 rfl) ?_
          obtain ⟨c120, hf⟩ := ck_t hf
          refine va_iald (f := mm 13) hx hb hK hP 12 0 (gX6_12 _ _ _ _) rfl (inb_in c120) dX6_isAtRest_120 ?_
          refine lv_iconst (v := 1) hx hb dX6_isAtRest_121 (by decide) ?_
          refine lv_icmp_eq (tgt := 135) hx hb dX6_isAtRest_122 (by decide) (fun c122 => ?_) (fun c122 => ?_)
          · have hf := if_t c122 hf
            refine lv_iconst (v := 1) hx hb dX6_isAtRest_135 (by decide) ?_
            refine lv_goto (tgt := 140) hx hb dX6_isAtRest_136 (by decide) ?_
            exact B140 _ _ _ _ _ k91 hk91 hf H locs hP hD hS ls (lv_sub hl [0, 1, 2, 3] rfl)
          · have hf := if_f c122 hf
            refine lv_aload_n hx hb dX6_isAtRest_125 rfl (lv_at hl 0 rfl) ?_
            refine ld_f S iX6 hK hP 0 13 (.ref (A 12)) (gX6_0 _ _ _ _) rfl (by decide) k48 rfl rfl dX6_isAtRest_126 ?_
            refine lv_iload_n hx hb dX6_isAtRest_129 rfl (lv_at hl 3 rfl) ?_
            obtain ⟨c130, hf⟩ := ck_t hf
            refine va_iald (f := mm 13) hx hb hK hP 12 0 (gX6_12 _ _ _ _) rfl (inb_in c130) dX6_isAtRest_130 ?_
            refine lv_iconst (v := 2) hx hb dX6_isAtRest_131 (by decide) ?_
            refine lv_icmp_ne (tgt := 139) hx hb dX6_isAtRest_132 (by decide) (fun c132 => ?_) (fun c132 => ?_)
            · have hf := if_f c132 hf
              exact B139 _ _ _ _ k91 hk91 hf H locs hP hD hS ls (lv_sub hl [0, 1, 2, 3] rfl)
            · have hf := if_t c132 hf
              refine lv_iconst (v := 1) hx hb dX6_isAtRest_135 (by decide) ?_
              refine lv_goto (tgt := 140) hx hb dX6_isAtRest_136 (by decide) ?_
              exact B140 _ _ _ _ _ k91 hk91 hf H locs hP hD hS ls (lv_sub hl [0, 1, 2, 3] rfl)
  have B88 : ∀ (mm : St) (x1 : Int32) (y0 : Int32), fX6_isAtRest_J88 mm x1 y0 = some res → Bk p l e ({ frames := 5, cells := 0, slots := 0, locals := 122 }) s m args below meth c Q A0 D 5 0 0 (wX6 cI cZ A mm) [(0, .ref (A 0)), (1, .int x1)] 88 [.int y0] := by
    intro mm x1 y0 hf
    unfold fX6_isAtRest_J88 at hf
    intro H locs hP hD hS ls hl
    refine lv_istore_n (lv' := [(2, .int y0), (0, .ref (A 0)), (1, .int x1)]) hx hb dX6_isAtRest_88 rfl hl (by decide) rfl (fun ls hl => ?_)
    refine lv_iconst (v := 0) hx hb dX6_isAtRest_89 (by decide) ?_
    refine lv_istore_n (lv' := [(3, .int 0), (2, .int y0), (0, .ref (A 0)), (1, .int x1)]) hx hb dX6_isAtRest_90 rfl hl (by decide) rfl (fun ls hl => ?_)
    exact B91 _ _ _ _ hf H locs hP hD hS ls (lv_sub hl [2, 3, 1, 0] rfl)
  have B87 : ∀ (mm : St) (x1 : Int32), fX6_isAtRest_J87 mm x1 = some res → Bk p l e ({ frames := 5, cells := 0, slots := 0, locals := 122 }) s m args below meth c Q A0 D 5 0 0 (wX6 cI cZ A mm) [(0, .ref (A 0)), (1, .int x1)] 87 [] := by
    intro mm x1 hf
    unfold fX6_isAtRest_J87 at hf
    intro H locs hP hD hS ls hl
    refine lv_iconst (v := 0) hx hb dX6_isAtRest_87 (by decide) ?_
    exact B88 _ _ _ hf H locs hP hD hS ls (lv_sub hl [0, 1] rfl)
  intro H locs hP hD hS ls hl
  have hl : lv_has ls 5 [(0, .ref (A 0))] := hl
  unfold fX6_isAtRest at hf
  refine lv_aload_n hx hb dX6_isAtRest_0 rfl (lv_at hl 0 rfl) ?_
  refine lv_iconst (v := 0) hx hb dX6_isAtRest_1 (by decide) ?_
  refine st_f S iX6 tyX6 tyX6_ok nmX6 hK hP hD hS 0 40 (sX6_0_40 _ _ _ _ _) (gX6_0 _ _ _ _) rfl (by decide) k126 rfl rfl (by decide +kernel) rfl dX6_isAtRest_2 (fun H locs hP hD hS => ?_)
  refine lv_aload_n hx hb dX6_isAtRest_5 rfl (lv_at hl 0 rfl) ?_
  refine lv_iconst (v := 0) hx hb dX6_isAtRest_6 (by decide) ?_
  obtain ⟨q7, h7, hf⟩ := bd_t hf
  refine cl_v (va_runV (As := [.int 0]) (rest := []) S (mX6_rows l D cI cZ A (iS mm 40 0) 0 H.size q7 h7) (cwV 1 hts gX6_isAtRest_X6_rows rfl rfl rfl (by decide +kernel) ⟨Nat.le_of_ble_eq_true rfl, Nat.le_of_ble_eq_true rfl⟩) (mP_V (ci := 6) (Cut.self _ []) hP hD hK hG rfl (gX6_0 _ _ _ _)) rfl rfl hl.1 rfl (lv_room (Nat.le_of_ble_eq_true rfl)) dX6_isAtRest_7 ⟨Nat.le_refl _, Nat.le_refl _⟩) (Cut.self _ _) hP hD hS hA (fun H locs hP hD hS => ?_)
  refine lv_aload_n hx hb dX6_isAtRest_10 rfl (lv_at hl 0 rfl) ?_
  refine ld_f S iX6 hK hP 0 0 (.int (q7 0 0)) (gX6_0 _ _ _ _) rfl (by decide) k193 rfl rfl dX6_isAtRest_11 ?_
  refine lv_istore_n (lv' := [(1, .int (q7 0 0)), (0, .ref (A 0))]) hx hb dX6_isAtRest_14 rfl hl (by decide) rfl (fun ls hl => ?_)
  refine lv_aload_n hx hb dX6_isAtRest_15 rfl (lv_at hl 1 rfl) ?_
  obtain ⟨q16, h16, hf⟩ := bd_t hf
  refine cl_v (va_runV (As := []) (rest := []) S (mX6_beats l D cI cZ A q7 H.size q16 h16) (cwV 0 hts gX6_isAtRest_X6_beats rfl rfl rfl (by decide +kernel) ⟨Nat.le_of_ble_eq_true rfl, Nat.le_of_ble_eq_true rfl⟩) (mP_V (ci := 6) (Cut.self _ []) hP hD hK hG rfl (gX6_0 _ _ _ _)) rfl rfl hl.1 rfl (lv_room (Nat.le_of_ble_eq_true rfl)) dX6_isAtRest_16 ⟨Nat.le_refl _, Nat.le_refl _⟩) (Cut.self _ _) hP hD hS hA (fun H locs hP hD hS => ?_)
  refine lv_aload_n hx hb dX6_isAtRest_19 rfl (lv_at hl 1 rfl) ?_
  refine lv_iconst (v := 0) hx hb dX6_isAtRest_20 (by decide) ?_
  refine lv_aload_n hx hb dX6_isAtRest_21 rfl (lv_at hl 1 rfl) ?_
  refine ld_f S iX6 hK hP 0 16 (.ref (A 15)) (gX6_0 _ _ _ _) rfl (by decide) k57 rfl rfl dX6_isAtRest_22 ?_
  obtain ⟨q25, h25, hf⟩ := bd_t hf
  refine cl_i (va_runV (As := [.int 0, .ref (A 15)]) (rest := []) S (mX6_isLike_k15 l D cI cZ A q16 0 H.size q25 h25) (cwV 2 hts gX6_isAtRest_X6_isLike rfl rfl rfl (by decide +kernel) ⟨Nat.le_of_ble_eq_true rfl, Nat.le_of_ble_eq_true rfl⟩) (mP_V (ci := 6) (Cut.self _ []) hP hD hK hG rfl (gX6_0 _ _ _ _)) rfl rfl hl.1 rfl (lv_room (Nat.le_of_ble_eq_true rfl)) dX6_isAtRest_25 ⟨Nat.le_refl _, Nat.le_refl _⟩) (Cut.self _ _) hP hD hS hA (fun H locs hP hD hS => ?_)
  refine lv_if_eq (tgt := 87) hx hb dX6_isAtRest_28 (by decide) (fun c28 => ?_) (fun c28 => ?_)
  · have hf := if_t c28 hf
    exact B87 _ _ hf H locs hP hD hS ls (lv_sub hl [1, 0] rfl)
  · have hf := if_f c28 hf
    refine lv_aload_n hx hb dX6_isAtRest_31 rfl (lv_at hl 1 rfl) ?_
    refine lv_bipush (v := 6) hx hb dX6_isAtRest_32 (by decide) ?_
    refine lv_aload_n hx hb dX6_isAtRest_34 rfl (lv_at hl 1 rfl) ?_
    refine ld_f S iX6 hK hP 0 17 (.ref (A 16)) (gX6_0 _ _ _ _) rfl (by decide) k60 rfl rfl dX6_isAtRest_35 ?_
    obtain ⟨q38, h38, hf⟩ := bd_t hf
    refine cl_i (va_runV (As := [.int 6, .ref (A 16)]) (rest := []) S (mX6_isLike_k16 l D cI cZ A q16 6 H.size q38 h38) (cwV 2 hts gX6_isAtRest_X6_isLike rfl rfl rfl (by decide +kernel) ⟨Nat.le_of_ble_eq_true rfl, Nat.le_of_ble_eq_true rfl⟩) (mP_V (ci := 6) (Cut.self _ []) hP hD hK hG rfl (gX6_0 _ _ _ _)) rfl rfl hl.1 rfl (lv_room (Nat.le_of_ble_eq_true rfl)) dX6_isAtRest_38 ⟨Nat.le_refl _, Nat.le_refl _⟩) (Cut.self _ _) hP hD hS hA (fun H locs hP hD hS => ?_)
    refine lv_if_eq (tgt := 87) hx hb dX6_isAtRest_41 (by decide) (fun c41 => ?_) (fun c41 => ?_)
    · have hf := if_t c41 hf
      exact B87 _ _ hf H locs hP hD hS ls (lv_sub hl [1, 0] rfl)
    · have hf := if_f c41 hf
      refine lv_aload_n hx hb dX6_isAtRest_44 rfl (lv_at hl 1 rfl) ?_
      refine lv_bipush (v := 12) hx hb dX6_isAtRest_45 (by decide) ?_
      refine lv_aload_n hx hb dX6_isAtRest_47 rfl (lv_at hl 1 rfl) ?_
      refine ld_f S iX6 hK hP 0 18 (.ref (A 17)) (gX6_0 _ _ _ _) rfl (by decide) k63 rfl rfl dX6_isAtRest_48 ?_
      obtain ⟨q51, h51, hf⟩ := bd_t hf
      refine cl_i (va_runV (As := [.int 12, .ref (A 17)]) (rest := []) S (mX6_isLike_k17 l D cI cZ A q16 12 H.size q51 h51) (cwV 2 hts gX6_isAtRest_X6_isLike rfl rfl rfl (by decide +kernel) ⟨Nat.le_of_ble_eq_true rfl, Nat.le_of_ble_eq_true rfl⟩) (mP_V (ci := 6) (Cut.self _ []) hP hD hK hG rfl (gX6_0 _ _ _ _)) rfl rfl hl.1 rfl (lv_room (Nat.le_of_ble_eq_true rfl)) dX6_isAtRest_51 ⟨Nat.le_refl _, Nat.le_refl _⟩) (Cut.self _ _) hP hD hS hA (fun H locs hP hD hS => ?_)
      refine lv_if_eq (tgt := 87) hx hb dX6_isAtRest_54 (by decide) (fun c54 => ?_) (fun c54 => ?_)
      · have hf := if_t c54 hf
        exact B87 _ _ hf H locs hP hD hS ls (lv_sub hl [1, 0] rfl)
      · have hf := if_f c54 hf
        refine lv_aload_n hx hb dX6_isAtRest_57 rfl (lv_at hl 1 rfl) ?_
        refine lv_bipush (v := 18) hx hb dX6_isAtRest_58 (by decide) ?_
        refine lv_aload_n hx hb dX6_isAtRest_60 rfl (lv_at hl 1 rfl) ?_
        refine ld_f S iX6 hK hP 0 19 (.ref (A 18)) (gX6_0 _ _ _ _) rfl (by decide) k66 rfl rfl dX6_isAtRest_61 ?_
        obtain ⟨q64, h64, hf⟩ := bd_t hf
        refine cl_i (va_runV (As := [.int 18, .ref (A 18)]) (rest := []) S (mX6_isLike_k18 l D cI cZ A q16 18 H.size q64 h64) (cwV 2 hts gX6_isAtRest_X6_isLike rfl rfl rfl (by decide +kernel) ⟨Nat.le_of_ble_eq_true rfl, Nat.le_of_ble_eq_true rfl⟩) (mP_V (ci := 6) (Cut.self _ []) hP hD hK hG rfl (gX6_0 _ _ _ _)) rfl rfl hl.1 rfl (lv_room (Nat.le_of_ble_eq_true rfl)) dX6_isAtRest_64 ⟨Nat.le_refl _, Nat.le_refl _⟩) (Cut.self _ _) hP hD hS hA (fun H locs hP hD hS => ?_)
        refine lv_if_eq (tgt := 87) hx hb dX6_isAtRest_67 (by decide) (fun c67 => ?_) (fun c67 => ?_)
        · have hf := if_t c67 hf
          exact B87 _ _ hf H locs hP hD hS ls (lv_sub hl [1, 0] rfl)
        · have hf := if_f c67 hf
          refine lv_aload_n hx hb dX6_isAtRest_70 rfl (lv_at hl 1 rfl) ?_
          refine lv_bipush (v := 24) hx hb dX6_isAtRest_71 (by decide) ?_
          refine lv_aload_n hx hb dX6_isAtRest_73 rfl (lv_at hl 1 rfl) ?_
          refine ld_f S iX6 hK hP 0 13 (.ref (A 12)) (gX6_0 _ _ _ _) rfl (by decide) k48 rfl rfl dX6_isAtRest_74 ?_
          obtain ⟨q77, h77, hf⟩ := bd_t hf
          refine cl_i (va_runV (As := [.int 24, .ref (A 12)]) (rest := []) S (mX6_isLike_k12 l D cI cZ A q16 24 H.size q77 h77) (cwV 2 hts gX6_isAtRest_X6_isLike rfl rfl rfl (by decide +kernel) ⟨Nat.le_of_ble_eq_true rfl, Nat.le_of_ble_eq_true rfl⟩) (mP_V (ci := 6) (Cut.self _ []) hP hD hK hG rfl (gX6_0 _ _ _ _)) rfl rfl hl.1 rfl (lv_room (Nat.le_of_ble_eq_true rfl)) dX6_isAtRest_77 ⟨Nat.le_refl _, Nat.le_refl _⟩) (Cut.self _ _) hP hD hS hA (fun H locs hP hD hS => ?_)
          refine lv_if_eq (tgt := 87) hx hb dX6_isAtRest_80 (by decide) (fun c80 => ?_) (fun c80 => ?_)
          · have hf := if_t c80 hf
            exact B87 _ _ hf H locs hP hD hS ls (lv_sub hl [1, 0] rfl)
          · have hf := if_f c80 hf
            refine lv_iconst (v := 1) hx hb dX6_isAtRest_83 (by decide) ?_
            refine lv_goto (tgt := 88) hx hb dX6_isAtRest_84 (by decide) ?_
            exact B88 _ _ _ hf H locs hP hD hS ls (lv_sub hl [1, 0] rfl)
set_option maxHeartbeats 4000000 in
set_option maxRecDepth 100000 in
theorem mX6_found (l : Launch) (D : va_G) (cI cZ : ClassId) (A : Nat → Nat)  (mm : St) (x1 : Int32) (sz : Nat) (res : Int32 × St) (hf : fX6_found mm x1 = some res) : Met l yX6_found wsX6_found ({ frames := 2, cells := 0, slots := 0, locals := 42 }) (mP D (tysX cI cZ) [.ref (A 0), .int x1] (wX6 cI cZ A mm) sz) (mQi D res.1 (wX6 cI cZ A mm) (wX6 cI cZ A (res.2)) sz) 0 0 (va_A (wX6 cI cZ A mm) sz) := by
  refine mkM_i (cc := cX6_found) (maxL := 4) (own := RX6) (by decide +kernel) rfl rfl (Nat.le_of_ble_eq_true rfl) ?_
  intro p e s m args below meth c A0 Q S hK hG hA hR
  obtain ⟨hx, hb, hml, hown, hts⟩ := id S
  have k120 := hts (.fieldLink RX6 120 "SwitchFloorModel" "distance" "[I") (by decide +kernel)
  have iX6 : ∀ w ∈ wsX60, w ∈ wsX6_found := by decide +kernel
  have v258 := hts (.constant RX6 258 (1000000)) (by decide +kernel)
  have k20 := hts (.fieldLink RX6 20 "SwitchFloorModel" "cost" "[I") (by decide +kernel)
  have k17 := hts (.fieldLink RX6 17 "SwitchFloorModel" "wire" "[I") (by decide +kernel)
  have B191 : ∀ (mm : St) (x2 : Int32), fX6_found_J191 mm x2 = some res → Bk p l e ({ frames := 2, cells := 0, slots := 0, locals := 42 }) s m args below meth c Q A0 D 4 0 0 (wX6 cI cZ A mm) [(0, .ref (A 0)), (2, .int x2)] 191 [] := by
    intro mm x2 hf
    unfold fX6_found_J191 at hf
    intro H locs hP hD hS ls hl
    refine lv_sipush (v := 1000) hx hb dX6_found_191 (by decide) ?_
    refine lv_iload_n hx hb dX6_found_194 rfl (lv_at hl 1 rfl) ?_
    refine lv_imul hx hb dX6_found_195 ?_
    refine lv_aload_n hx hb dX6_found_196 rfl (lv_at hl 0 rfl) ?_
    refine ld_f S iX6 hK hP 0 38 (.ref (A 36)) (gX6_0 _ _ _ _) rfl (by decide) k120 rfl rfl dX6_found_197 ?_
    refine lv_iload_n hx hb dX6_found_200 rfl (lv_at hl 1 rfl) ?_
    obtain ⟨c201, hf⟩ := ck_t hf
    refine va_iald (f := mm 38) hx hb hK hP 36 0 (gX6_36 _ _ _ _) rfl (inb_in c201) dX6_found_201 ?_
    refine lv_iadd hx hb dX6_found_202 ?_
    exact hR _ ls H locs _ _ (congrArg (fun q => q.1) (Option.some.inj hf)) (congrArg (fun q => (wX6 cI cZ A (q.2))) (Option.some.inj hf)) rfl dX6_found_203 hP hD hS
  have B152 : ∀ (mm : St) (x2 : Int32) (x3 : Int32), fX6_found_L152 mm x2 x3 = some res → Bk p l e ({ frames := 2, cells := 0, slots := 0, locals := 42 }) s m args below meth c Q A0 D 4 0 0 (wX6 cI cZ A mm) [(0, .ref (A 0)), (2, .int x2), (3, .int x3)] 152 [] := by
    intro mm x2 x3 hf
    refine loop_ind (step := (fun k a => fX6_found_S152 k mm (a.1) (a.2))) (fun a => Bk p l e ({ frames := 2, cells := 0, slots := 0, locals := 42 }) s m args below meth c Q A0 D 4 0 0 (wX6 cI cZ A mm) [(0, .ref (A 0)), (2, .int (a.1)), (3, .int (a.2))] 152 []) ?_ _ _ hf
    clear hf
    intro k152 hk152 a hf
    obtain ⟨x2_, x3_⟩ := a
    clear x2 x3
    obtain ⟨x2, e_⟩ : ∃ z, z = x2_ := ⟨_, rfl⟩
    subst e_
    obtain ⟨x3, e_⟩ : ∃ z, z = x3_ := ⟨_, rfl⟩
    subst e_
    have hf : fX6_found_S152 k152 mm x2 x3 = some res := hf
    show Bk p l e ({ frames := 2, cells := 0, slots := 0, locals := 42 }) s m args below meth c Q A0 D 4 0 0 (wX6 cI cZ A mm) [(0, .ref (A 0)), (2, .int x2), (3, .int x3)] 152 []
    unfold fX6_found_S152 at hf
    intro H locs hP hD hS ls hl
    refine lv_iload_n hx hb dX6_found_152 rfl (lv_at hl 2 rfl) ?_
    refine lv_bipush (v := 6) hx hb dX6_found_153 (by decide) ?_
    refine lv_icmp_ge (tgt := 191) hx hb dX6_found_155 (by decide) (fun c155 => ?_) (fun c155 => ?_)
    · have hf := if_t c155 hf
      exact B191 _ _ hf H locs hP hD hS ls (lv_sub hl [0, 1] rfl)
    · have hf := if_f c155 hf
      refine lv_aload_n hx hb dX6_found_158 rfl (lv_at hl 0 rfl) ?_
      refine ld_f S iX6 hK hP 0 38 (.ref (A 36)) (gX6_0 _ _ _ _) rfl (by decide) k120 rfl rfl dX6_found_159 ?_
      refine lv_iload_n hx hb dX6_found_162 rfl (lv_at hl 2 rfl) ?_
      obtain ⟨c163, hf⟩ := ck_t hf
      refine va_iald (f := mm 38) hx hb hK hP 36 0 (gX6_36 _ _ _ _) rfl (inb_in c163) dX6_found_163 ?_
      refine lv_ldcw (v := 1000000) hx hb hown v258 dX6_found_164 ?_
      refine lv_icmp_ge (tgt := 183) hx hb dX6_found_167 (by decide) (fun c167 => ?_) (fun c167 => ?_)
      · have hf := if_t c167 hf
        refine lv_iload_n hx hb dX6_found_183 rfl (lv_at hl 1 rfl) ?_
        refine lv_istore_n (lv' := [(2, .int x2), (0, .ref (A 0)), (3, .int x3)]) hx hb dX6_found_184 rfl hl (by decide) rfl (fun ls hl => ?_)
        refine lv_iinc (v := x3 + 1) (lv' := [(3, .int (x3 + 1)), (2, .int x2), (0, .ref (A 0))]) hx hb dX6_found_185 hl (k := 2) rfl rfl (by decide) rfl (fun ls hl => ?_)
        refine lv_goto (tgt := 152) hx hb dX6_found_188 (by decide) ?_
        exact hk152 _ hf H locs hP hD hS ls (lv_sub hl [2, 1, 0] rfl)
      · have hf := if_f c167 hf
        refine lv_aload_n hx hb dX6_found_170 rfl (lv_at hl 0 rfl) ?_
        refine lv_iload_n hx hb dX6_found_171 rfl (lv_at hl 2 rfl) ?_
        refine lv_iload_n hx hb dX6_found_172 rfl (lv_at hl 1 rfl) ?_
        obtain ⟨q173, h173, hf⟩ := bd_t hf
        refine cl_i (va_runV (As := [.int x3, .int x2]) (rest := []) S (mX6_isBetter l D cI cZ A mm x3 x2 H.size q173 h173) (cwV 2 hts gX6_found_X6_isBetter rfl rfl rfl (by decide +kernel) ⟨Nat.le_of_ble_eq_true rfl, Nat.le_of_ble_eq_true rfl⟩) (mP_V (ci := 6) (Cut.self _ []) hP hD hK hG rfl (gX6_0 _ _ _ _)) rfl rfl hl.1 rfl (lv_room (Nat.le_of_ble_eq_true rfl)) dX6_found_173 ⟨Nat.le_refl _, Nat.le_refl _⟩) (Cut.self _ _) hP hD hS hA (fun H locs hP hD hS => ?_)
        refine lv_if_eq (tgt := 183) hx hb dX6_found_176 (by decide) (fun c176 => ?_) (fun c176 => ?_)
        · have hf := if_t c176 hf
          refine lv_iload_n hx hb dX6_found_183 rfl (lv_at hl 1 rfl) ?_
          refine lv_istore_n (lv' := [(2, .int x2), (0, .ref (A 0)), (3, .int x3)]) hx hb dX6_found_184 rfl hl (by decide) rfl (fun ls hl => ?_)
          refine lv_iinc (v := x3 + 1) (lv' := [(3, .int (x3 + 1)), (2, .int x2), (0, .ref (A 0))]) hx hb dX6_found_185 hl (k := 2) rfl rfl (by decide) rfl (fun ls hl => ?_)
          refine lv_goto (tgt := 152) hx hb dX6_found_188 (by decide) ?_
          exact hk152 _ hf H locs hP hD hS ls (lv_sub hl [2, 1, 0] rfl)
        · have hf := if_f c176 hf
          refine lv_iload_n hx hb dX6_found_179 rfl (lv_at hl 2 rfl) ?_
          refine lv_goto (tgt := 184) hx hb dX6_found_180 (by decide) ?_
          refine lv_istore_n (lv' := [(2, .int x3), (0, .ref (A 0)), (3, .int x3)]) hx hb dX6_found_184 rfl hl (by decide) rfl (fun ls hl => ?_)
          refine lv_iinc (v := x3 + 1) (lv' := [(3, .int (x3 + 1)), (2, .int x3), (0, .ref (A 0))]) hx hb dX6_found_185 hl (k := 2) rfl rfl (by decide) rfl (fun ls hl => ?_)
          refine lv_goto (tgt := 152) hx hb dX6_found_188 (by decide) ?_
          exact hk152 _ hf H locs hP hD hS ls (lv_sub hl [2, 1, 0] rfl)
  have B148 : ∀ (mm : St) (x1 : Int32), fX6_found_J148 mm x1 = some res → Bk p l e ({ frames := 2, cells := 0, slots := 0, locals := 42 }) s m args below meth c Q A0 D 4 0 0 (wX6 cI cZ A mm) [(0, .ref (A 0)), (1, .int x1)] 148 [] := by
    intro mm x1 hf
    unfold fX6_found_J148 at hf
    intro H locs hP hD hS ls hl
    refine lv_iload_n hx hb dX6_found_148 rfl (lv_at hl 1 rfl) ?_
    refine lv_istore_n (lv' := [(2, .int x1), (0, .ref (A 0)), (1, .int x1)]) hx hb dX6_found_149 rfl hl (by decide) rfl (fun ls hl => ?_)
    refine lv_iconst (v := 0) hx hb dX6_found_150 (by decide) ?_
    refine lv_istore_n (lv' := [(3, .int 0), (2, .int x1), (0, .ref (A 0)), (1, .int x1)]) hx hb dX6_found_151 rfl hl (by decide) rfl (fun ls hl => ?_)
    exact B152 _ _ _ hf H locs hP hD hS ls (lv_sub hl [2, 1, 0] rfl)
  have B63 : ∀ (x1 : Int32) (x2 : Int32) (k55 : (St × Int32) → Option (Int32 × St)) (hk55 : ∀ a55, k55 a55 = some res → Bk p l e ({ frames := 2, cells := 0, slots := 0, locals := 42 }) s m args below meth c Q A0 D 4 0 0 (wX6 cI cZ A (a55.1)) [(0, .ref (A 0)), (1, .int x1), (2, .int (a55.2))] 55 []) (mm : St) (x3 : Int32), fX6_found_L63 k55 x1 x2 mm x3 = some res → Bk p l e ({ frames := 2, cells := 0, slots := 0, locals := 42 }) s m args below meth c Q A0 D 4 0 0 (wX6 cI cZ A mm) [(0, .ref (A 0)), (1, .int x1), (2, .int x2), (3, .int x3)] 63 [] := by
    intro x1 x2 k55 hk55 mm x3 hf
    refine loop_ind (step := (fun k a => fX6_found_S63 k55 k x1 x2 (a.1) (a.2))) (fun a => Bk p l e ({ frames := 2, cells := 0, slots := 0, locals := 42 }) s m args below meth c Q A0 D 4 0 0 (wX6 cI cZ A (a.1)) [(0, .ref (A 0)), (1, .int x1), (2, .int x2), (3, .int (a.2))] 63 []) ?_ _ _ hf
    clear hf
    intro k63 hk63 a hf
    obtain ⟨mm_, x3_⟩ := a
    clear mm x3
    obtain ⟨mm, e_⟩ : ∃ z, z = mm_ := ⟨_, rfl⟩
    subst e_
    obtain ⟨x3, e_⟩ : ∃ z, z = x3_ := ⟨_, rfl⟩
    subst e_
    have hf : fX6_found_S63 k55 k63 x1 x2 mm x3 = some res := hf
    show Bk p l e ({ frames := 2, cells := 0, slots := 0, locals := 42 }) s m args below meth c Q A0 D 4 0 0 (wX6 cI cZ A mm) [(0, .ref (A 0)), (1, .int x1), (2, .int x2), (3, .int x3)] 63 []
    unfold fX6_found_S63 at hf
    intro H locs hP hD hS ls hl
    refine lv_iload_n hx hb dX6_found_63 rfl (lv_at hl 3 rfl) ?_
    refine lv_bipush (v := 30) hx hb dX6_found_64 (by decide) ?_
    refine lv_icmp_ge (tgt := 142) hx hb dX6_found_66 (by decide) (fun c66 => ?_) (fun c66 => ?_)
    · have hf := if_t c66 hf
      refine lv_iinc (v := x2 + 1) (lv' := [(2, .int (x2 + 1)), (0, .ref (A 0)), (1, .int x1), (3, .int x3)]) hx hb dX6_found_142 hl (k := 2) rfl rfl (by decide) rfl (fun ls hl => ?_)
      refine lv_goto (tgt := 55) hx hb dX6_found_145 (by decide) ?_
      exact hk55 _ hf H locs hP hD hS ls (lv_sub hl [1, 2, 0] rfl)
    · have hf := if_f c66 hf
      refine lv_aload_n hx hb dX6_found_69 rfl (lv_at hl 0 rfl) ?_
      refine lv_iload_n hx hb dX6_found_70 rfl (lv_at hl 3 rfl) ?_
      obtain ⟨q71, h71, hf⟩ := bd_t hf
      refine cl_i (va_runV (As := [.int x3]) (rest := []) S (mX6_isPassable l D cI cZ A mm x3 H.size q71 h71) (cwV 1 hts gX6_found_X6_isPassable rfl rfl rfl (by decide +kernel) ⟨Nat.le_of_ble_eq_true rfl, Nat.le_of_ble_eq_true rfl⟩) (mP_V (ci := 6) (Cut.self _ []) hP hD hK hG rfl (gX6_0 _ _ _ _)) rfl rfl hl.1 rfl (lv_room (Nat.le_of_ble_eq_true rfl)) dX6_found_71 ⟨Nat.le_refl _, Nat.le_refl _⟩) (Cut.self _ _) hP hD hS hA (fun H locs hP hD hS => ?_)
      refine lv_if_eq (tgt := 136) hx hb dX6_found_74 (by decide) (fun c74 => ?_) (fun c74 => ?_)
      · have hf := if_t c74 hf
        refine lv_iinc (v := x3 + 1) (lv' := [(3, .int (x3 + 1)), (0, .ref (A 0)), (1, .int x1), (2, .int x2)]) hx hb dX6_found_136 hl (k := 3) rfl rfl (by decide) rfl (fun ls hl => ?_)
        refine lv_goto (tgt := 63) hx hb dX6_found_139 (by decide) ?_
        exact hk63 _ hf H locs hP hD hS ls (lv_sub hl [1, 2, 3, 0] rfl)
      · have hf := if_f c74 hf
        refine lv_aload_n hx hb dX6_found_77 rfl (lv_at hl 0 rfl) ?_
        refine ld_f S iX6 hK hP 0 38 (.ref (A 36)) (gX6_0 _ _ _ _) rfl (by decide) k120 rfl rfl dX6_found_78 ?_
        refine lv_iload_n hx hb dX6_found_81 rfl (lv_at hl 3 rfl) ?_
        refine lv_iconst (v := 5) hx hb dX6_found_82 (by decide) ?_
        refine lv_idiv hx hb dX6_found_83 (by decide) ?_
        obtain ⟨c84, hf⟩ := ck_t hf
        refine va_iald (f := mm 38) hx hb hK hP 36 0 (gX6_36 _ _ _ _) rfl (inb_in c84) dX6_found_84 ?_
        refine lv_aload_n hx hb dX6_found_85 rfl (lv_at hl 0 rfl) ?_
        refine ld_f S iX6 hK hP 0 4 (.ref (A 3)) (gX6_0 _ _ _ _) rfl (by decide) k20 rfl rfl dX6_found_86 ?_
        refine lv_iload_n hx hb dX6_found_89 rfl (lv_at hl 3 rfl) ?_
        obtain ⟨c90, hf⟩ := ck_t hf
        refine va_iald (f := mm 4) hx hb hK hP 3 0 (gX6_3 _ _ _ _) rfl (inb_in c90) dX6_found_90 ?_
        refine lv_iadd hx hb dX6_found_91 ?_
        refine lv_aload_n hx hb dX6_found_92 rfl (lv_at hl 0 rfl) ?_
        refine ld_f S iX6 hK hP 0 38 (.ref (A 36)) (gX6_0 _ _ _ _) rfl (by decide) k120 rfl rfl dX6_found_93 ?_
        refine lv_aload_n hx hb dX6_found_96 rfl (lv_at hl 0 rfl) ?_
        refine ld_f S iX6 hK hP 0 3 (.ref (A 2)) (gX6_0 _ _ _ _) rfl (by decide) k17 rfl rfl dX6_found_97 ?_
        refine lv_iload_n hx hb dX6_found_100 rfl (lv_at hl 3 rfl) ?_
        obtain ⟨c101, hf⟩ := ck_t hf
        refine va_iald (f := mm 3) hx hb hK hP 2 0 (gX6_2 _ _ _ _) rfl (inb_in c101) dX6_found_101 ?_
        refine lv_iconst (v := 5) hx hb dX6_found_102 (by decide) ?_
        refine lv_idiv hx hb dX6_found_103 (by decide) ?_
        obtain ⟨c104, hf⟩ := ck_t hf
        refine va_iald (f := mm 38) hx hb hK hP 36 0 (gX6_36 _ _ _ _) rfl (inb_in c104) dX6_found_104 ?_
        refine lv_icmp_ge (tgt := 136) hx hb dX6_found_105 (by decide) (fun c105 => ?_) (fun c105 => ?_)
        · have hf := if_t c105 hf
          refine lv_iinc (v := x3 + 1) (lv' := [(3, .int (x3 + 1)), (0, .ref (A 0)), (1, .int x1), (2, .int x2)]) hx hb dX6_found_136 hl (k := 3) rfl rfl (by decide) rfl (fun ls hl => ?_)
          refine lv_goto (tgt := 63) hx hb dX6_found_139 (by decide) ?_
          exact hk63 _ hf H locs hP hD hS ls (lv_sub hl [1, 2, 3, 0] rfl)
        · have hf := if_f c105 hf
          refine lv_aload_n hx hb dX6_found_108 rfl (lv_at hl 0 rfl) ?_
          refine ld_f S iX6 hK hP 0 38 (.ref (A 36)) (gX6_0 _ _ _ _) rfl (by decide) k120 rfl rfl dX6_found_109 ?_
          refine lv_aload_n hx hb dX6_found_112 rfl (lv_at hl 0 rfl) ?_
          refine ld_f S iX6 hK hP 0 3 (.ref (A 2)) (gX6_0 _ _ _ _) rfl (by decide) k17 rfl rfl dX6_found_113 ?_
          refine lv_iload_n hx hb dX6_found_116 rfl (lv_at hl 3 rfl) ?_
          obtain ⟨c117, hf⟩ := ck_t hf
          refine va_iald (f := mm 3) hx hb hK hP 2 0 (gX6_2 _ _ _ _) rfl (inb_in c117) dX6_found_117 ?_
          refine lv_iconst (v := 5) hx hb dX6_found_118 (by decide) ?_
          refine lv_idiv hx hb dX6_found_119 (by decide) ?_
          refine lv_aload_n hx hb dX6_found_120 rfl (lv_at hl 0 rfl) ?_
          refine ld_f S iX6 hK hP 0 38 (.ref (A 36)) (gX6_0 _ _ _ _) rfl (by decide) k120 rfl rfl dX6_found_121 ?_
          refine lv_iload_n hx hb dX6_found_124 rfl (lv_at hl 3 rfl) ?_
          refine lv_iconst (v := 5) hx hb dX6_found_125 (by decide) ?_
          refine lv_idiv hx hb dX6_found_126 (by decide) ?_
          obtain ⟨c127, hf⟩ := ck_t hf
          refine va_iald (f := mm 38) hx hb hK hP 36 0 (gX6_36 _ _ _ _) rfl (inb_in c127) dX6_found_127 ?_
          refine lv_aload_n hx hb dX6_found_128 rfl (lv_at hl 0 rfl) ?_
          refine ld_f S iX6 hK hP 0 4 (.ref (A 3)) (gX6_0 _ _ _ _) rfl (by decide) k20 rfl rfl dX6_found_129 ?_
          refine lv_iload_n hx hb dX6_found_132 rfl (lv_at hl 3 rfl) ?_
          obtain ⟨c133, hf⟩ := ck_t hf
          refine va_iald (f := mm 4) hx hb hK hP 3 0 (gX6_3 _ _ _ _) rfl (inb_in c133) dX6_found_133 ?_
          refine lv_iadd hx hb dX6_found_134 ?_
          obtain ⟨c135, hf⟩ := ck_t hf
          refine st_i hx hb hK hP hD hS 36 0 (sX6_36 _ _ _ _ _ _) (gX6_36 _ _ _ _) rfl c135 dX6_found_135 (fun H locs hP hD hS => ?_)
          refine lv_iinc (v := x3 + 1) (lv' := [(3, .int (x3 + 1)), (0, .ref (A 0)), (1, .int x1), (2, .int x2)]) hx hb dX6_found_136 hl (k := 3) rfl rfl (by decide) rfl (fun ls hl => ?_)
          refine lv_goto (tgt := 63) hx hb dX6_found_139 (by decide) ?_
          exact hk63 _ hf H locs hP hD hS ls (lv_sub hl [1, 2, 3, 0] rfl)
  have B55 : ∀ (x1 : Int32) (mm : St) (x2 : Int32), fX6_found_L55 x1 mm x2 = some res → Bk p l e ({ frames := 2, cells := 0, slots := 0, locals := 42 }) s m args below meth c Q A0 D 4 0 0 (wX6 cI cZ A mm) [(0, .ref (A 0)), (1, .int x1), (2, .int x2)] 55 [] := by
    intro x1 mm x2 hf
    refine loop_ind (step := (fun k a => fX6_found_S55 k x1 (a.1) (a.2))) (fun a => Bk p l e ({ frames := 2, cells := 0, slots := 0, locals := 42 }) s m args below meth c Q A0 D 4 0 0 (wX6 cI cZ A (a.1)) [(0, .ref (A 0)), (1, .int x1), (2, .int (a.2))] 55 []) ?_ _ _ hf
    clear hf
    intro k55 hk55 a hf
    obtain ⟨mm_, x2_⟩ := a
    clear mm x2
    obtain ⟨mm, e_⟩ : ∃ z, z = mm_ := ⟨_, rfl⟩
    subst e_
    obtain ⟨x2, e_⟩ : ∃ z, z = x2_ := ⟨_, rfl⟩
    subst e_
    have hf : fX6_found_S55 k55 x1 mm x2 = some res := hf
    show Bk p l e ({ frames := 2, cells := 0, slots := 0, locals := 42 }) s m args below meth c Q A0 D 4 0 0 (wX6 cI cZ A mm) [(0, .ref (A 0)), (1, .int x1), (2, .int x2)] 55 []
    unfold fX6_found_S55 at hf
    intro H locs hP hD hS ls hl
    refine lv_iload_n hx hb dX6_found_55 rfl (lv_at hl 2 rfl) ?_
    refine lv_bipush (v := 6) hx hb dX6_found_56 (by decide) ?_
    refine lv_icmp_ge (tgt := 148) hx hb dX6_found_58 (by decide) (fun c58 => ?_) (fun c58 => ?_)
    · have hf := if_t c58 hf
      exact B148 _ _ hf H locs hP hD hS ls (lv_sub hl [0, 1] rfl)
    · have hf := if_f c58 hf
      refine lv_iconst (v := 0) hx hb dX6_found_61 (by decide) ?_
      refine lv_istore_n (lv' := [(3, .int 0), (0, .ref (A 0)), (1, .int x1), (2, .int x2)]) hx hb dX6_found_62 rfl hl (by decide) rfl (fun ls hl => ?_)
      exact B63 _ _ k55 hk55 _ _ hf H locs hP hD hS ls (lv_sub hl [1, 2, 3, 0] rfl)
  have B53 : ∀ (mm : St) (x1 : Int32), fX6_found_J53 mm x1 = some res → Bk p l e ({ frames := 2, cells := 0, slots := 0, locals := 42 }) s m args below meth c Q A0 D 4 0 0 (wX6 cI cZ A mm) [(0, .ref (A 0)), (1, .int x1)] 53 [] := by
    intro mm x1 hf
    unfold fX6_found_J53 at hf
    intro H locs hP hD hS ls hl
    refine lv_iconst (v := 0) hx hb dX6_found_53 (by decide) ?_
    refine lv_istore_n (lv' := [(2, .int 0), (0, .ref (A 0)), (1, .int x1)]) hx hb dX6_found_54 rfl hl (by decide) rfl (fun ls hl => ?_)
    exact B55 _ _ _ hf H locs hP hD hS ls (lv_sub hl [1, 2, 0] rfl)
  have B46 : ∀ (mm : St) (x1 : Int32) (x2 : Int32) (y0 : Int32) (y1 : Int32) (k23 : (St × Int32) → Option (Int32 × St)) (hk23 : ∀ a23, k23 a23 = some res → Bk p l e ({ frames := 2, cells := 0, slots := 0, locals := 42 }) s m args below meth c Q A0 D 4 0 0 (wX6 cI cZ A (a23.1)) [(0, .ref (A 0)), (1, .int x1), (2, .int (a23.2))] 23 []), fX6_found_J46 k23 mm x1 x2 y0 y1 = some res → Bk p l e ({ frames := 2, cells := 0, slots := 0, locals := 42 }) s m args below meth c Q A0 D 4 0 0 (wX6 cI cZ A mm) [(0, .ref (A 0)), (1, .int x1), (2, .int x2)] 46 [.int y0, .int y1, .ref (A 36)] := by
    intro mm x1 x2 y0 y1 k23 hk23 hf
    unfold fX6_found_J46 at hf
    intro H locs hP hD hS ls hl
    obtain ⟨c46, hf⟩ := ck_t hf
    refine st_i hx hb hK hP hD hS 36 0 (sX6_36 _ _ _ _ _ _) (gX6_36 _ _ _ _) rfl c46 dX6_found_46 (fun H locs hP hD hS => ?_)
    refine lv_iinc (v := x2 + 1) (lv' := [(2, .int (x2 + 1)), (0, .ref (A 0)), (1, .int x1)]) hx hb dX6_found_47 hl (k := 2) rfl rfl (by decide) rfl (fun ls hl => ?_)
    refine lv_goto (tgt := 23) hx hb dX6_found_50 (by decide) ?_
    exact hk23 _ hf H locs hP hD hS ls (lv_sub hl [1, 2, 0] rfl)
  have B23 : ∀ (x1 : Int32) (mm : St) (x2 : Int32), fX6_found_L23 x1 mm x2 = some res → Bk p l e ({ frames := 2, cells := 0, slots := 0, locals := 42 }) s m args below meth c Q A0 D 4 0 0 (wX6 cI cZ A mm) [(0, .ref (A 0)), (1, .int x1), (2, .int x2)] 23 [] := by
    intro x1 mm x2 hf
    refine loop_ind (step := (fun k a => fX6_found_S23 k x1 (a.1) (a.2))) (fun a => Bk p l e ({ frames := 2, cells := 0, slots := 0, locals := 42 }) s m args below meth c Q A0 D 4 0 0 (wX6 cI cZ A (a.1)) [(0, .ref (A 0)), (1, .int x1), (2, .int (a.2))] 23 []) ?_ _ _ hf
    clear hf
    intro k23 hk23 a hf
    obtain ⟨mm_, x2_⟩ := a
    clear mm x2
    obtain ⟨mm, e_⟩ : ∃ z, z = mm_ := ⟨_, rfl⟩
    subst e_
    obtain ⟨x2, e_⟩ : ∃ z, z = x2_ := ⟨_, rfl⟩
    subst e_
    have hf : fX6_found_S23 k23 x1 mm x2 = some res := hf
    show Bk p l e ({ frames := 2, cells := 0, slots := 0, locals := 42 }) s m args below meth c Q A0 D 4 0 0 (wX6 cI cZ A mm) [(0, .ref (A 0)), (1, .int x1), (2, .int x2)] 23 []
    unfold fX6_found_S23 at hf
    intro H locs hP hD hS ls hl
    refine lv_iload_n hx hb dX6_found_23 rfl (lv_at hl 2 rfl) ?_
    refine lv_bipush (v := 6) hx hb dX6_found_24 (by decide) ?_
    refine lv_icmp_ge (tgt := 53) hx hb dX6_found_26 (by decide) (fun c26 => ?_) (fun c26 => ?_)
    · have hf := if_t c26 hf
      exact B53 _ _ hf H locs hP hD hS ls (lv_sub hl [0, 1] rfl)
    · have hf := if_f c26 hf
      refine lv_aload_n hx hb dX6_found_29 rfl (lv_at hl 0 rfl) ?_
      refine ld_f S iX6 hK hP 0 38 (.ref (A 36)) (gX6_0 _ _ _ _) rfl (by decide) k120 rfl rfl dX6_found_30 ?_
      refine lv_iload_n hx hb dX6_found_33 rfl (lv_at hl 2 rfl) ?_
      refine lv_iload_n hx hb dX6_found_34 rfl (lv_at hl 2 rfl) ?_
      refine lv_iload_n hx hb dX6_found_35 rfl (lv_at hl 1 rfl) ?_
      refine lv_icmp_ne (tgt := 43) hx hb dX6_found_36 (by decide) (fun c36 => ?_) (fun c36 => ?_)
      · have hf := if_f c36 hf
        refine lv_ldcw (v := 1000000) hx hb hown v258 dX6_found_43 ?_
        exact B46 _ _ _ _ _ k23 hk23 hf H locs hP hD hS ls (lv_sub hl [0, 1, 2] rfl)
      · have hf := if_t c36 hf
        refine lv_iconst (v := 0) hx hb dX6_found_39 (by decide) ?_
        refine lv_goto (tgt := 46) hx hb dX6_found_40 (by decide) ?_
        exact B46 _ _ _ _ _ k23 hk23 hf H locs hP hD hS ls (lv_sub hl [0, 1, 2] rfl)
  have B13 : ∀ (mm : St) (x1 : Int32) (y0 : Int32), fX6_found_J13 mm x1 y0 = some res → Bk p l e ({ frames := 2, cells := 0, slots := 0, locals := 42 }) s m args below meth c Q A0 D 4 0 0 (wX6 cI cZ A mm) [(0, .ref (A 0)), (1, .int x1)] 13 [.int y0, .ref (A 0)] := by
    intro mm x1 y0 hf
    unfold fX6_found_J13 at hf
    intro H locs hP hD hS ls hl
    obtain ⟨q13, h13, hf⟩ := bd_t hf
    refine cl_i (va_runV (As := [.int y0]) (rest := []) S (mX6_fails l D cI cZ A mm y0 H.size q13 h13) (cwV 1 hts gX6_found_X6_fails rfl rfl rfl (by decide +kernel) ⟨Nat.le_of_ble_eq_true rfl, Nat.le_of_ble_eq_true rfl⟩) (mP_V (ci := 6) (Cut.self _ []) hP hD hK hG rfl (gX6_0 _ _ _ _)) rfl rfl hl.1 rfl (lv_room (Nat.le_of_ble_eq_true rfl)) dX6_found_13 ⟨Nat.le_refl _, Nat.le_refl _⟩) (Cut.self _ _) hP hD hS hA (fun H locs hP hD hS => ?_)
    refine lv_if_eq (tgt := 21) hx hb dX6_found_16 (by decide) (fun c16 => ?_) (fun c16 => ?_)
    · have hf := if_t c16 hf
      refine lv_iconst (v := 0) hx hb dX6_found_21 (by decide) ?_
      refine lv_istore_n (lv' := [(2, .int 0), (0, .ref (A 0)), (1, .int x1)]) hx hb dX6_found_22 rfl hl (by decide) rfl (fun ls hl => ?_)
      exact B23 _ _ _ hf H locs hP hD hS ls (lv_sub hl [1, 2, 0] rfl)
    · have hf := if_f c16 hf
      refine lv_iconst (v := 0) hx hb dX6_found_19 (by decide) ?_
      exact hR _ ls H locs _ _ (congrArg (fun q => q.1) (Option.some.inj hf)) (congrArg (fun q => (wX6 cI cZ A (q.2))) (Option.some.inj hf)) rfl dX6_found_20 hP hD hS
  intro H locs hP hD hS ls hl
  have hl : lv_has ls 4 [(0, .ref (A 0)), (1, .int x1)] := hl
  unfold fX6_found at hf
  refine lv_aload_n hx hb dX6_found_0 rfl (lv_at hl 0 rfl) ?_
  refine lv_iload_n hx hb dX6_found_1 rfl (lv_at hl 1 rfl) ?_
  obtain ⟨q2, h2, hf⟩ := bd_t hf
  refine cl_i (va_runS (As := [.int x1]) (rest := [.ref (A 0)]) S (mX6_isSwitch l D cI cZ x1 H.size q2 h2) (va_cwS 1 hts gX6_found_X6_isSwitch rfl rfl rfl (by decide +kernel) ⟨Nat.le_of_ble_eq_true rfl, Nat.le_of_ble_eq_true rfl⟩) (mP_S (Cut.nil _) hP hD hK hG) rfl rfl hl.1 rfl (lv_room (Nat.le_of_ble_eq_true rfl)) dX6_found_2 ⟨Nat.le_refl _, Nat.le_refl _⟩) (Cut.nil _) hP hD hS hA (fun H locs hP hD hS => ?_)
  refine lv_if_eq (tgt := 12) hx hb dX6_found_5 (by decide) (fun c5 => ?_) (fun c5 => ?_)
  · have hf := if_t c5 hf
    refine lv_iconst (v := 1) hx hb dX6_found_12 (by decide) ?_
    exact B13 _ _ _ hf H locs hP hD hS ls (lv_sub hl [0, 1] rfl)
  · have hf := if_f c5 hf
    refine lv_iconst (v := 0) hx hb dX6_found_8 (by decide) ?_
    refine lv_goto (tgt := 13) hx hb dX6_found_9 (by decide) ?_
    exact B13 _ _ _ hf H locs hP hD hS ls (lv_sub hl [0, 1] rfl)
set_option maxHeartbeats 4000000 in
set_option maxRecDepth 100000 in
theorem mX6_walk (l : Launch) (D : va_G) (cI cZ : ClassId) (A : Nat → Nat)  (mm : St) (x1 : Int32) (x2 : Int32) (sz : Nat) (res : Int32 × St) (hf : fX6_walk mm x1 x2 = some res) : Met l yX6_walk wsX6_walk ({ frames := 2, cells := 0, slots := 0, locals := 42 }) (mP D (tysX cI cZ) [.ref (A 0), .int x1, .int x2] (wX6 cI cZ A mm) sz) (mQi D res.1 (wX6 cI cZ A mm) (wX6 cI cZ A (res.2)) sz) 0 0 (va_A (wX6 cI cZ A mm) sz) := by
  refine mkM_i (cc := cX6_walk) (maxL := 10) (own := RX6) (by decide +kernel) rfl rfl (Nat.le_of_ble_eq_true rfl) ?_
  intro p e s m args below meth c A0 Q S hK hG hA hR
  obtain ⟨hx, hb, hml, hown, hts⟩ := id S
  have k90 := hts (.fieldLink RX6 90 "SwitchFloorModel" "entryPort" "[I") (by decide +kernel)
  have iX6 : ∀ w ∈ wsX60, w ∈ wsX6_walk := by decide +kernel
  have k45 := hts (.fieldLink RX6 45 "SwitchFloorModel" "isOpen" "[Z") (by decide +kernel)
  have k23 := hts (.fieldLink RX6 23 "SwitchFloorModel" "house" "[I") (by decide +kernel)
  have k29 := hts (.fieldLink RX6 29 "SwitchFloorModel" "isTrunk" "[Z") (by decide +kernel)
  have k17 := hts (.fieldLink RX6 17 "SwitchFloorModel" "wire" "[I") (by decide +kernel)
  have k36 := hts (.fieldLink RX6 36 "SwitchFloorModel" "lane" "[I") (by decide +kernel)
  have B239 : ∀ (mm : St) (x2 : Int32) (x6 : Int32) (x9 : Int32) (y0 : Int32) (k87 : (Int32 × Int32 × Int32) → Option (Int32 × St)) (hk87 : ∀ a87, k87 a87 = some res → Bk p l e ({ frames := 2, cells := 0, slots := 0, locals := 42 }) s m args below meth c Q A0 D 10 0 0 (wX6 cI cZ A mm) [(0, .ref (A 0)), (2, .int x2), (4, .int (a87.1)), (5, .int (a87.2.1)), (6, .int (a87.2.2))] 87 []), fX6_walk_J239 k87 mm x2 x6 x9 y0 = some res → Bk p l e ({ frames := 2, cells := 0, slots := 0, locals := 42 }) s m args below meth c Q A0 D 10 0 0 (wX6 cI cZ A mm) [(0, .ref (A 0)), (2, .int x2), (6, .int x6), (9, .int x9)] 239 [.int y0] := by
    intro mm x2 x6 x9 y0 k87 hk87 hf
    unfold fX6_walk_J239 at hf
    intro H locs hP hD hS ls hl
    refine lv_istore (lv' := [(5, .int y0), (0, .ref (A 0)), (2, .int x2), (6, .int x6), (9, .int x9)]) hx hb dX6_walk_239 hl (by decide) rfl (fun ls hl => ?_)
    refine lv_aload_n hx hb dX6_walk_241 rfl (lv_at hl 1 rfl) ?_
    refine ld_f S iX6 hK hP 0 3 (.ref (A 2)) (gX6_0 _ _ _ _) rfl (by decide) k17 rfl rfl dX6_walk_242 ?_
    refine lv_iload hx hb dX6_walk_245 (lv_at hl 4 rfl) ?_
    obtain ⟨c247, hf⟩ := ck_t hf
    refine va_iald (f := mm 3) hx hb hK hP 2 0 (gX6_2 _ _ _ _) rfl (inb_in c247) dX6_walk_247 ?_
    refine lv_istore (lv' := [(4, .int (mm 3 x9.toNatClampNeg)), (5, .int y0), (0, .ref (A 0)), (2, .int x2), (6, .int x6), (9, .int x9)]) hx hb dX6_walk_248 hl (by decide) rfl (fun ls hl => ?_)
    refine lv_iinc (v := x6 + 1) (lv' := [(6, .int (x6 + 1)), (4, .int (mm 3 x9.toNatClampNeg)), (5, .int y0), (0, .ref (A 0)), (2, .int x2), (9, .int x9)]) hx hb dX6_walk_250 hl (k := 4) rfl rfl (by decide) rfl (fun ls hl => ?_)
    refine lv_goto (tgt := 87) hx hb dX6_walk_253 (by decide) ?_
    exact hk87 _ hf H locs hP hD hS ls (lv_sub hl [3, 4, 1, 2, 0] rfl)
  have B238 : ∀ (mm : St) (x2 : Int32) (x6 : Int32) (x9 : Int32) (k87 : (Int32 × Int32 × Int32) → Option (Int32 × St)) (hk87 : ∀ a87, k87 a87 = some res → Bk p l e ({ frames := 2, cells := 0, slots := 0, locals := 42 }) s m args below meth c Q A0 D 10 0 0 (wX6 cI cZ A mm) [(0, .ref (A 0)), (2, .int x2), (4, .int (a87.1)), (5, .int (a87.2.1)), (6, .int (a87.2.2))] 87 []), fX6_walk_J238 k87 mm x2 x6 x9 = some res → Bk p l e ({ frames := 2, cells := 0, slots := 0, locals := 42 }) s m args below meth c Q A0 D 10 0 0 (wX6 cI cZ A mm) [(0, .ref (A 0)), (2, .int x2), (6, .int x6), (9, .int x9)] 238 [] := by
    intro mm x2 x6 x9 k87 hk87 hf
    unfold fX6_walk_J238 at hf
    intro H locs hP hD hS ls hl
    refine lv_iconst (v := 0) hx hb dX6_walk_238 (by decide) ?_
    exact B239 _ _ _ _ _ k87 hk87 hf H locs hP hD hS ls (lv_sub hl [0, 1, 2, 3] rfl)
  have B193 : ∀ (mm : St) (x2 : Int32) (x6 : Int32) (x9 : Int32), fX6_walk_J193 mm x2 x6 x9 = some res → Bk p l e ({ frames := 2, cells := 0, slots := 0, locals := 42 }) s m args below meth c Q A0 D 10 0 0 (wX6 cI cZ A mm) [(0, .ref (A 0)), (2, .int x2), (6, .int x6), (9, .int x9)] 193 [] := by
    intro mm x2 x6 x9 hf
    unfold fX6_walk_J193 at hf
    intro H locs hP hD hS ls hl
    refine lv_aload_n hx hb dX6_walk_193 rfl (lv_at hl 0 rfl) ?_
    refine ld_f S iX6 hK hP 0 5 (.ref (A 4)) (gX6_0 _ _ _ _) rfl (by decide) k23 rfl rfl dX6_walk_194 ?_
    refine lv_iload hx hb dX6_walk_197 (lv_at hl 3 rfl) ?_
    obtain ⟨c199, hf⟩ := ck_t hf
    refine va_iald (f := mm 5) hx hb hK hP 4 0 (gX6_4 _ _ _ _) rfl (inb_in c199) dX6_walk_199 ?_
    refine lv_iload_n hx hb dX6_walk_200 rfl (lv_at hl 1 rfl) ?_
    refine lv_icmp_ne (tgt := 209) hx hb dX6_walk_201 (by decide) (fun c201 => ?_) (fun c201 => ?_)
    · have hf := if_f c201 hf
      refine lv_iconst (v := (-1)) hx hb dX6_walk_209 (by decide) ?_
      exact hR _ ls H locs _ _ (congrArg (fun q => q.1) (Option.some.inj hf)) (congrArg (fun q => (wX6 cI cZ A (q.2))) (Option.some.inj hf)) rfl dX6_walk_210 hP hD hS
    · have hf := if_t c201 hf
      refine lv_iload hx hb dX6_walk_204 (lv_at hl 2 rfl) ?_
      refine lv_goto (tgt := 210) hx hb dX6_walk_206 (by decide) ?_
      exact hR _ ls H locs _ _ (congrArg (fun q => q.1) (Option.some.inj hf)) (congrArg (fun q => (wX6 cI cZ A (q.2))) (Option.some.inj hf)) rfl dX6_walk_210 hP hD hS
  have B151 : ∀ (mm : St) (x2 : Int32) (x6 : Int32) (x7 : Int32) (y0 : Int32) (k87 : (Int32 × Int32 × Int32) → Option (Int32 × St)) (hk87 : ∀ a87, k87 a87 = some res → Bk p l e ({ frames := 2, cells := 0, slots := 0, locals := 42 }) s m args below meth c Q A0 D 10 0 0 (wX6 cI cZ A mm) [(0, .ref (A 0)), (2, .int x2), (4, .int (a87.1)), (5, .int (a87.2.1)), (6, .int (a87.2.2))] 87 []), fX6_walk_J151 k87 mm x2 x6 x7 y0 = some res → Bk p l e ({ frames := 2, cells := 0, slots := 0, locals := 42 }) s m args below meth c Q A0 D 10 0 0 (wX6 cI cZ A mm) [(0, .ref (A 0)), (2, .int x2), (6, .int x6), (7, .int x7)] 151 [.int y0] := by
    intro mm x2 x6 x7 y0 k87 hk87 hf
    unfold fX6_walk_J151 at hf
    intro H locs hP hD hS ls hl
    refine lv_istore (lv' := [(9, .int y0), (0, .ref (A 0)), (2, .int x2), (6, .int x6), (7, .int x7)]) hx hb dX6_walk_151 hl (by decide) rfl (fun ls hl => ?_)
    refine lv_iload hx hb dX6_walk_153 (lv_at hl 0 rfl) ?_
    refine lv_iconst (v := (-1)) hx hb dX6_walk_155 (by decide) ?_
    refine lv_icmp_eq (tgt := 180) hx hb dX6_walk_156 (by decide) (fun c156 => ?_) (fun c156 => ?_)
    · have hf := if_t c156 hf
      refine lv_iconst (v := (-1)) hx hb dX6_walk_180 (by decide) ?_
      exact hR _ ls H locs _ _ (congrArg (fun q => q.1) (Option.some.inj hf)) (congrArg (fun q => (wX6 cI cZ A (q.2))) (Option.some.inj hf)) rfl dX6_walk_181 hP hD hS
    · have hf := if_f c156 hf
      refine lv_aload_n hx hb dX6_walk_159 rfl (lv_at hl 1 rfl) ?_
      refine ld_f S iX6 hK hP 0 12 (.ref (A 11)) (gX6_0 _ _ _ _) rfl (by decide) k45 rfl rfl dX6_walk_160 ?_
      refine lv_iload hx hb dX6_walk_163 (lv_at hl 0 rfl) ?_
      obtain ⟨c165, hf⟩ := ck_t hf
      refine va_zald (f := mm 12) hx hb hK hP 11 1 (gX6_11 _ _ _ _) rfl (inb_in c165) dX6_walk_165 ?_
      refine lv_if_eq (tgt := 180) hx hb dX6_walk_166 (by decide) (fun c166 => ?_) (fun c166 => ?_)
      · have hf := if_t c166 hf
        refine lv_iconst (v := (-1)) hx hb dX6_walk_180 (by decide) ?_
        exact hR _ ls H locs _ _ (congrArg (fun q => q.1) (Option.some.inj hf)) (congrArg (fun q => (wX6 cI cZ A (q.2))) (Option.some.inj hf)) rfl dX6_walk_181 hP hD hS
      · have hf := if_f c166 hf
        refine lv_aload_n hx hb dX6_walk_169 rfl (lv_at hl 1 rfl) ?_
        refine lv_iload hx hb dX6_walk_170 (lv_at hl 0 rfl) ?_
        refine lv_iload hx hb dX6_walk_172 (lv_at hl 4 rfl) ?_
        obtain ⟨q174, h174, hf⟩ := bd_t hf
        refine cl_i (va_runV (As := [.int y0, .int x7]) (rest := []) S (mX6_hasLane l D cI cZ A mm y0 x7 H.size q174 h174) (cwV 2 hts gX6_walk_X6_hasLane rfl rfl rfl (by decide +kernel) ⟨Nat.le_of_ble_eq_true rfl, Nat.le_of_ble_eq_true rfl⟩) (mP_V (ci := 6) (Cut.self _ []) hP hD hK hG rfl (gX6_0 _ _ _ _)) rfl rfl hl.1 rfl (lv_room (Nat.le_of_ble_eq_true rfl)) dX6_walk_174 ⟨Nat.le_refl _, Nat.le_refl _⟩) (Cut.self _ _) hP hD hS hA (fun H locs hP hD hS => ?_)
        refine lv_if_ne (tgt := 182) hx hb dX6_walk_177 (by decide) (fun c177 => ?_) (fun c177 => ?_)
        · have hf := if_f c177 hf
          refine lv_aload_n hx hb dX6_walk_182 rfl (lv_at hl 1 rfl) ?_
          refine ld_f S iX6 hK hP 0 5 (.ref (A 4)) (gX6_0 _ _ _ _) rfl (by decide) k23 rfl rfl dX6_walk_183 ?_
          refine lv_iload hx hb dX6_walk_186 (lv_at hl 0 rfl) ?_
          obtain ⟨c188, hf⟩ := ck_t hf
          refine va_iald (f := mm 5) hx hb hK hP 4 0 (gX6_4 _ _ _ _) rfl (inb_in c188) dX6_walk_188 ?_
          refine lv_iconst (v := (-1)) hx hb dX6_walk_189 (by decide) ?_
          refine lv_icmp_eq (tgt := 211) hx hb dX6_walk_190 (by decide) (fun c190 => ?_) (fun c190 => ?_)
          · have hf := if_t c190 hf
            refine lv_aload_n hx hb dX6_walk_211 rfl (lv_at hl 1 rfl) ?_
            refine ld_f S iX6 hK hP 0 7 (.ref (A 6)) (gX6_0 _ _ _ _) rfl (by decide) k29 rfl rfl dX6_walk_212 ?_
            refine lv_iload hx hb dX6_walk_215 (lv_at hl 0 rfl) ?_
            obtain ⟨c217, hf⟩ := ck_t hf
            refine va_zald (f := mm 7) hx hb hK hP 6 1 (gX6_6 _ _ _ _) rfl (inb_in c217) dX6_walk_217 ?_
            refine lv_if_eq (tgt := 238) hx hb dX6_walk_218 (by decide) (fun c218 => ?_) (fun c218 => ?_)
            · have hf := if_t c218 hf
              exact B238 _ _ _ _ k87 hk87 hf H locs hP hD hS ls (lv_sub hl [1, 2, 3, 0] rfl)
            · have hf := if_f c218 hf
              refine lv_iload hx hb dX6_walk_221 (lv_at hl 4 rfl) ?_
              refine lv_aload_n hx hb dX6_walk_223 rfl (lv_at hl 1 rfl) ?_
              refine ld_f S iX6 hK hP 0 9 (.ref (A 8)) (gX6_0 _ _ _ _) rfl (by decide) k36 rfl rfl dX6_walk_224 ?_
              refine lv_iload hx hb dX6_walk_227 (lv_at hl 0 rfl) ?_
              obtain ⟨c229, hf⟩ := ck_t hf
              refine va_iald (f := mm 9) hx hb hK hP 8 0 (gX6_8 _ _ _ _) rfl (inb_in c229) dX6_walk_229 ?_
              refine lv_icmp_eq (tgt := 238) hx hb dX6_walk_230 (by decide) (fun c230 => ?_) (fun c230 => ?_)
              · have hf := if_t c230 hf
                exact B238 _ _ _ _ k87 hk87 hf H locs hP hD hS ls (lv_sub hl [1, 2, 3, 0] rfl)
              · have hf := if_f c230 hf
                refine lv_iload hx hb dX6_walk_233 (lv_at hl 4 rfl) ?_
                refine lv_goto (tgt := 239) hx hb dX6_walk_235 (by decide) ?_
                exact B239 _ _ _ _ _ k87 hk87 hf H locs hP hD hS ls (lv_sub hl [1, 2, 3, 0] rfl)
          · have hf := if_f c190 hf
            exact B193 _ _ _ _ hf H locs hP hD hS ls (lv_sub hl [1, 2, 3, 0] rfl)
        · have hf := if_t c177 hf
          refine lv_iconst (v := (-1)) hx hb dX6_walk_180 (by decide) ?_
          exact hR _ ls H locs _ _ (congrArg (fun q => q.1) (Option.some.inj hf)) (congrArg (fun q => (wX6 cI cZ A (q.2))) (Option.some.inj hf)) rfl dX6_walk_181 hP hD hS
  have B124 : ∀ (mm : St) (x2 : Int32) (x4 : Int32) (x6 : Int32) (x7 : Int32) (y0 : Int32) (k87 : (Int32 × Int32 × Int32) → Option (Int32 × St)) (hk87 : ∀ a87, k87 a87 = some res → Bk p l e ({ frames := 2, cells := 0, slots := 0, locals := 42 }) s m args below meth c Q A0 D 10 0 0 (wX6 cI cZ A mm) [(0, .ref (A 0)), (2, .int x2), (4, .int (a87.1)), (5, .int (a87.2.1)), (6, .int (a87.2.2))] 87 []), fX6_walk_J124 k87 mm x2 x4 x6 x7 y0 = some res → Bk p l e ({ frames := 2, cells := 0, slots := 0, locals := 42 }) s m args below meth c Q A0 D 10 0 0 (wX6 cI cZ A mm) [(0, .ref (A 0)), (2, .int x2), (4, .int x4), (6, .int x6), (7, .int x7)] 124 [.int y0] := by
    intro mm x2 x4 x6 x7 y0 k87 hk87 hf
    unfold fX6_walk_J124 at hf
    intro H locs hP hD hS ls hl
    refine lv_istore (lv' := [(8, .int y0), (0, .ref (A 0)), (2, .int x2), (4, .int x4), (6, .int x6), (7, .int x7)]) hx hb dX6_walk_124 hl (by decide) rfl (fun ls hl => ?_)
    refine lv_iload hx hb dX6_walk_126 (lv_at hl 0 rfl) ?_
    refine lv_iconst (v := (-1)) hx hb dX6_walk_128 (by decide) ?_
    refine lv_icmp_ne (tgt := 136) hx hb dX6_walk_129 (by decide) (fun c129 => ?_) (fun c129 => ?_)
    · have hf := if_f c129 hf
      refine lv_iload hx hb dX6_walk_136 (lv_at hl 3 rfl) ?_
      refine lv_iload hx hb dX6_walk_138 (lv_at hl 3 rfl) ?_
      refine lv_iconst (v := 5) hx hb dX6_walk_140 (by decide) ?_
      refine lv_irem hx hb dX6_walk_141 (by decide) ?_
      refine lv_isub hx hb dX6_walk_142 ?_
      refine lv_aload_n hx hb dX6_walk_143 rfl (lv_at hl 1 rfl) ?_
      refine ld_f S iX6 hK hP 0 27 (.ref (A 26)) (gX6_0 _ _ _ _) rfl (by decide) k90 rfl rfl dX6_walk_144 ?_
      refine lv_iload hx hb dX6_walk_147 (lv_at hl 0 rfl) ?_
      obtain ⟨c149, hf⟩ := ck_t hf
      refine va_iald (f := mm 27) hx hb hK hP 26 0 (gX6_26 _ _ _ _) rfl (inb_in c149) dX6_walk_149 ?_
      refine lv_iadd hx hb dX6_walk_150 ?_
      exact B151 _ _ _ _ _ k87 hk87 hf H locs hP hD hS ls (lv_sub hl [1, 2, 4, 5] rfl)
    · have hf := if_t c129 hf
      refine lv_iconst (v := (-1)) hx hb dX6_walk_132 (by decide) ?_
      refine lv_goto (tgt := 151) hx hb dX6_walk_133 (by decide) ?_
      exact B151 _ _ _ _ _ k87 hk87 hf H locs hP hD hS ls (lv_sub hl [1, 2, 4, 5] rfl)
  have B87 : ∀ (mm : St) (x2 : Int32) (x4 : Int32) (x5 : Int32) (x6 : Int32), fX6_walk_L87 mm x2 x4 x5 x6 = some res → Bk p l e ({ frames := 2, cells := 0, slots := 0, locals := 42 }) s m args below meth c Q A0 D 10 0 0 (wX6 cI cZ A mm) [(0, .ref (A 0)), (2, .int x2), (4, .int x4), (5, .int x5), (6, .int x6)] 87 [] := by
    intro mm x2 x4 x5 x6 hf
    refine loop_ind (step := (fun k a => fX6_walk_S87 k mm x2 (a.1) (a.2.1) (a.2.2))) (fun a => Bk p l e ({ frames := 2, cells := 0, slots := 0, locals := 42 }) s m args below meth c Q A0 D 10 0 0 (wX6 cI cZ A mm) [(0, .ref (A 0)), (2, .int x2), (4, .int (a.1)), (5, .int (a.2.1)), (6, .int (a.2.2))] 87 []) ?_ _ _ hf
    clear hf
    intro k87 hk87 a hf
    obtain ⟨x4_, x5_, x6_⟩ := a
    clear x4 x5 x6
    obtain ⟨x4, e_⟩ : ∃ z, z = x4_ := ⟨_, rfl⟩
    subst e_
    obtain ⟨x5, e_⟩ : ∃ z, z = x5_ := ⟨_, rfl⟩
    subst e_
    obtain ⟨x6, e_⟩ : ∃ z, z = x6_ := ⟨_, rfl⟩
    subst e_
    have hf : fX6_walk_S87 k87 mm x2 x4 x5 x6 = some res := hf
    show Bk p l e ({ frames := 2, cells := 0, slots := 0, locals := 42 }) s m args below meth c Q A0 D 10 0 0 (wX6 cI cZ A mm) [(0, .ref (A 0)), (2, .int x2), (4, .int x4), (5, .int x5), (6, .int x6)] 87 []
    unfold fX6_walk_S87 at hf
    intro H locs hP hD hS ls hl
    refine lv_iload hx hb dX6_walk_87 (lv_at hl 4 rfl) ?_
    refine lv_bipush (v := 12) hx hb dX6_walk_89 (by decide) ?_
    refine lv_icmp_gt (tgt := 256) hx hb dX6_walk_91 (by decide) (fun c91 => ?_) (fun c91 => ?_)
    · have hf := if_t c91 hf
      refine lv_iconst (v := (-1)) hx hb dX6_walk_256 (by decide) ?_
      exact hR _ ls H locs _ _ (congrArg (fun q => q.1) (Option.some.inj hf)) (congrArg (fun q => (wX6 cI cZ A (q.2))) (Option.some.inj hf)) rfl dX6_walk_257 hP hD hS
    · have hf := if_f c91 hf
      refine lv_aload_n hx hb dX6_walk_94 rfl (lv_at hl 0 rfl) ?_
      refine lv_iload hx hb dX6_walk_95 (lv_at hl 2 rfl) ?_
      refine lv_iload hx hb dX6_walk_97 (lv_at hl 3 rfl) ?_
      obtain ⟨q99, h99, hf⟩ := bd_t hf
      refine cl_i (va_runV (As := [.int x4, .int x5]) (rest := []) S (mX6_laneOf l D cI cZ A mm x4 x5 H.size q99 h99) (cwV 2 hts gX6_walk_X6_laneOf rfl rfl rfl (by decide +kernel) ⟨Nat.le_of_ble_eq_true rfl, Nat.le_of_ble_eq_true rfl⟩) (mP_V (ci := 6) (Cut.self _ []) hP hD hK hG rfl (gX6_0 _ _ _ _)) rfl rfl hl.1 rfl (lv_room (Nat.le_of_ble_eq_true rfl)) dX6_walk_99 ⟨Nat.le_refl _, Nat.le_refl _⟩) (Cut.self _ _) hP hD hS hA (fun H locs hP hD hS => ?_)
      refine lv_istore (lv' := [(7, .int q99), (0, .ref (A 0)), (2, .int x2), (4, .int x4), (5, .int x5), (6, .int x6)]) hx hb dX6_walk_102 hl (by decide) rfl (fun ls hl => ?_)
      refine lv_iload hx hb dX6_walk_104 (lv_at hl 0 rfl) ?_
      refine lv_if_ne (tgt := 113) hx hb dX6_walk_106 (by decide) (fun c106 => ?_) (fun c106 => ?_)
      · have hf := if_f c106 hf
        refine lv_aload_n hx hb dX6_walk_113 rfl (lv_at hl 1 rfl) ?_
        refine lv_iload hx hb dX6_walk_114 (lv_at hl 3 rfl) ?_
        refine lv_iconst (v := 5) hx hb dX6_walk_116 (by decide) ?_
        refine lv_idiv hx hb dX6_walk_117 (by decide) ?_
        refine lv_iload hx hb dX6_walk_118 (lv_at hl 0 rfl) ?_
        refine lv_iload_n hx hb dX6_walk_120 rfl (lv_at hl 2 rfl) ?_
        obtain ⟨q121, h121, hf⟩ := bd_t hf
        refine cl_i (va_runV (As := [.int (x4 / 5), .int q99, .int x2]) (rest := []) S (mX6_find l D cI cZ A mm (x4 / 5) q99 x2 H.size q121 h121) (cwV 3 hts gX6_walk_X6_find rfl rfl rfl (by decide +kernel) ⟨Nat.le_of_ble_eq_true rfl, Nat.le_of_ble_eq_true rfl⟩) (mP_V (ci := 6) (Cut.self _ []) hP hD hK hG rfl (gX6_0 _ _ _ _)) rfl rfl hl.1 rfl (lv_room (Nat.le_of_ble_eq_true rfl)) dX6_walk_121 ⟨Nat.le_refl _, Nat.le_refl _⟩) (Cut.self _ _) hP hD hS hA (fun H locs hP hD hS => ?_)
        exact B124 _ _ _ _ _ _ k87 hk87 hf H locs hP hD hS ls (lv_sub hl [1, 2, 3, 5, 0] rfl)
      · have hf := if_t c106 hf
        refine lv_iconst (v := (-1)) hx hb dX6_walk_109 (by decide) ?_
        refine lv_goto (tgt := 124) hx hb dX6_walk_110 (by decide) ?_
        exact B124 _ _ _ _ _ _ k87 hk87 hf H locs hP hD hS ls (lv_sub hl [1, 2, 3, 5, 0] rfl)
  have B73 : ∀ (mm : St) (x2 : Int32) (x4 : Int32) (y0 : Int32), fX6_walk_J73 mm x2 x4 y0 = some res → Bk p l e ({ frames := 2, cells := 0, slots := 0, locals := 42 }) s m args below meth c Q A0 D 10 0 0 (wX6 cI cZ A mm) [(0, .ref (A 0)), (2, .int x2), (4, .int x4)] 73 [.int y0, .ref (A 0)] := by
    intro mm x2 x4 y0 hf
    unfold fX6_walk_J73 at hf
    intro H locs hP hD hS ls hl
    obtain ⟨q73, h73, hf⟩ := bd_t hf
    refine cl_i (va_runV (As := [.int y0]) (rest := []) S (mX6_fails l D cI cZ A mm y0 H.size q73 h73) (cwV 1 hts gX6_walk_X6_fails rfl rfl rfl (by decide +kernel) ⟨Nat.le_of_ble_eq_true rfl, Nat.le_of_ble_eq_true rfl⟩) (mP_V (ci := 6) (Cut.self _ []) hP hD hK hG rfl (gX6_0 _ _ _ _)) rfl rfl hl.1 rfl (lv_room (Nat.le_of_ble_eq_true rfl)) dX6_walk_73 ⟨Nat.le_refl _, Nat.le_refl _⟩) (Cut.self _ _) hP hD hS hA (fun H locs hP hD hS => ?_)
    refine lv_if_eq (tgt := 81) hx hb dX6_walk_76 (by decide) (fun c76 => ?_) (fun c76 => ?_)
    · have hf := if_t c76 hf
      refine lv_iconst (v := 0) hx hb dX6_walk_81 (by decide) ?_
      refine lv_istore (lv' := [(5, .int 0), (0, .ref (A 0)), (2, .int x2), (4, .int x4)]) hx hb dX6_walk_82 hl (by decide) rfl (fun ls hl => ?_)
      refine lv_iconst (v := 1) hx hb dX6_walk_84 (by decide) ?_
      refine lv_istore (lv' := [(6, .int 1), (5, .int 0), (0, .ref (A 0)), (2, .int x2), (4, .int x4)]) hx hb dX6_walk_85 hl (by decide) rfl (fun ls hl => ?_)
      exact B87 _ _ _ _ _ hf H locs hP hD hS ls (lv_sub hl [2, 3, 4, 1, 0] rfl)
    · have hf := if_f c76 hf
      refine lv_iconst (v := 0) hx hb dX6_walk_79 (by decide) ?_
      exact hR _ ls H locs _ _ (congrArg (fun q => q.1) (Option.some.inj hf)) (congrArg (fun q => (wX6 cI cZ A (q.2))) (Option.some.inj hf)) rfl dX6_walk_80 hP hD hS
  have B33 : ∀ (mm : St) (x1 : Int32) (x2 : Int32) (x3 : Int32) (y0 : Int32), fX6_walk_J33 mm x1 x2 x3 y0 = some res → Bk p l e ({ frames := 2, cells := 0, slots := 0, locals := 42 }) s m args below meth c Q A0 D 10 0 0 (wX6 cI cZ A mm) [(0, .ref (A 0)), (1, .int x1), (2, .int x2), (3, .int x3)] 33 [.int y0] := by
    intro mm x1 x2 x3 y0 hf
    unfold fX6_walk_J33 at hf
    intro H locs hP hD hS ls hl
    refine lv_istore (lv' := [(4, .int y0), (0, .ref (A 0)), (1, .int x1), (2, .int x2), (3, .int x3)]) hx hb dX6_walk_33 hl (by decide) rfl (fun ls hl => ?_)
    refine lv_aload_n hx hb dX6_walk_35 rfl (lv_at hl 1 rfl) ?_
    refine lv_iload_n hx hb dX6_walk_36 rfl (lv_at hl 4 rfl) ?_
    refine lv_if_ne (tgt := 44) hx hb dX6_walk_37 (by decide) (fun c37 => ?_) (fun c37 => ?_)
    · have hf := if_f c37 hf
      refine lv_iload_n hx hb dX6_walk_44 rfl (lv_at hl 2 rfl) ?_
      refine lv_iload_n hx hb dX6_walk_45 rfl (lv_at hl 3 rfl) ?_
      refine lv_icmp_ne (tgt := 53) hx hb dX6_walk_46 (by decide) (fun c46 => ?_) (fun c46 => ?_)
      · have hf := if_f c46 hf
        refine lv_iload hx hb dX6_walk_53 (lv_at hl 0 rfl) ?_
        refine lv_iconst (v := (-1)) hx hb dX6_walk_55 (by decide) ?_
        refine lv_icmp_eq (tgt := 68) hx hb dX6_walk_56 (by decide) (fun c56 => ?_) (fun c56 => ?_)
        · have hf := if_t c56 hf
          refine lv_iconst (v := 3) hx hb dX6_walk_68 (by decide) ?_
          refine lv_goto (tgt := 73) hx hb dX6_walk_69 (by decide) ?_
          exact B73 _ _ _ _ hf H locs hP hD hS ls (lv_sub hl [1, 3, 0] rfl)
        · have hf := if_f c56 hf
          refine lv_aload_n hx hb dX6_walk_59 rfl (lv_at hl 1 rfl) ?_
          refine lv_iload_n hx hb dX6_walk_60 rfl (lv_at hl 3 rfl) ?_
          obtain ⟨q61, h61, hf⟩ := bd_t hf
          refine cl_i (va_runV (As := [.int x2]) (rest := [.ref (A 0)]) S (mX6_portOf l D cI cZ A mm x2 H.size q61 h61) (cwV 1 hts gX6_walk_X6_portOf rfl rfl rfl (by decide +kernel) ⟨Nat.le_of_ble_eq_true rfl, Nat.le_of_ble_eq_true rfl⟩) (mP_V (ci := 6) (Cut.self _ []) hP hD hK hG rfl (gX6_0 _ _ _ _)) rfl rfl hl.1 rfl (lv_room (Nat.le_of_ble_eq_true rfl)) dX6_walk_61 ⟨Nat.le_refl _, Nat.le_refl _⟩) (Cut.self _ _) hP hD hS hA (fun H locs hP hD hS => ?_)
          refine lv_iconst (v := (-1)) hx hb dX6_walk_64 (by decide) ?_
          refine lv_icmp_ne (tgt := 72) hx hb dX6_walk_65 (by decide) (fun c65 => ?_) (fun c65 => ?_)
          · have hf := if_f c65 hf
            refine lv_iconst (v := 0) hx hb dX6_walk_72 (by decide) ?_
            exact B73 _ _ _ _ hf H locs hP hD hS ls (lv_sub hl [1, 3, 0] rfl)
          · have hf := if_t c65 hf
            refine lv_iconst (v := 3) hx hb dX6_walk_68 (by decide) ?_
            refine lv_goto (tgt := 73) hx hb dX6_walk_69 (by decide) ?_
            exact B73 _ _ _ _ hf H locs hP hD hS ls (lv_sub hl [1, 3, 0] rfl)
      · have hf := if_t c46 hf
        refine lv_iconst (v := 2) hx hb dX6_walk_49 (by decide) ?_
        refine lv_goto (tgt := 73) hx hb dX6_walk_50 (by decide) ?_
        exact B73 _ _ _ _ hf H locs hP hD hS ls (lv_sub hl [1, 3, 0] rfl)
    · have hf := if_t c37 hf
      refine lv_iconst (v := 1) hx hb dX6_walk_40 (by decide) ?_
      refine lv_goto (tgt := 73) hx hb dX6_walk_41 (by decide) ?_
      exact B73 _ _ _ _ hf H locs hP hD hS ls (lv_sub hl [1, 3, 0] rfl)
  have B19 : ∀ (mm : St) (x1 : Int32) (x2 : Int32) (y0 : Int32), fX6_walk_J19 mm x1 x2 y0 = some res → Bk p l e ({ frames := 2, cells := 0, slots := 0, locals := 42 }) s m args below meth c Q A0 D 10 0 0 (wX6 cI cZ A mm) [(0, .ref (A 0)), (1, .int x1), (2, .int x2)] 19 [.int y0] := by
    intro mm x1 x2 y0 hf
    unfold fX6_walk_J19 at hf
    intro H locs hP hD hS ls hl
    refine lv_istore_n (lv' := [(3, .int y0), (0, .ref (A 0)), (1, .int x1), (2, .int x2)]) hx hb dX6_walk_19 rfl hl (by decide) rfl (fun ls hl => ?_)
    refine lv_iload_n hx hb dX6_walk_20 rfl (lv_at hl 0 rfl) ?_
    refine lv_if_eq (tgt := 32) hx hb dX6_walk_21 (by decide) (fun c21 => ?_) (fun c21 => ?_)
    · have hf := if_t c21 hf
      refine lv_iconst (v := (-1)) hx hb dX6_walk_32 (by decide) ?_
      exact B33 _ _ _ _ _ hf H locs hP hD hS ls (lv_sub hl [1, 2, 3, 0] rfl)
    · have hf := if_f c21 hf
      refine lv_aload_n hx hb dX6_walk_24 rfl (lv_at hl 1 rfl) ?_
      refine lv_iload_n hx hb dX6_walk_25 rfl (lv_at hl 2 rfl) ?_
      obtain ⟨q26, h26, hf⟩ := bd_t hf
      refine cl_i (va_runV (As := [.int x1]) (rest := []) S (mX6_portOf l D cI cZ A mm x1 H.size q26 h26) (cwV 1 hts gX6_walk_X6_portOf rfl rfl rfl (by decide +kernel) ⟨Nat.le_of_ble_eq_true rfl, Nat.le_of_ble_eq_true rfl⟩) (mP_V (ci := 6) (Cut.self _ []) hP hD hK hG rfl (gX6_0 _ _ _ _)) rfl rfl hl.1 rfl (lv_room (Nat.le_of_ble_eq_true rfl)) dX6_walk_26 ⟨Nat.le_refl _, Nat.le_refl _⟩) (Cut.self _ _) hP hD hS hA (fun H locs hP hD hS => ?_)
      refine lv_goto (tgt := 33) hx hb dX6_walk_29 (by decide) ?_
      exact B33 _ _ _ _ _ hf H locs hP hD hS ls (lv_sub hl [1, 2, 3, 0] rfl)
  have B18 : ∀ (mm : St) (x1 : Int32) (x2 : Int32), fX6_walk_J18 mm x1 x2 = some res → Bk p l e ({ frames := 2, cells := 0, slots := 0, locals := 42 }) s m args below meth c Q A0 D 10 0 0 (wX6 cI cZ A mm) [(0, .ref (A 0)), (1, .int x1), (2, .int x2)] 18 [] := by
    intro mm x1 x2 hf
    unfold fX6_walk_J18 at hf
    intro H locs hP hD hS ls hl
    refine lv_iconst (v := 0) hx hb dX6_walk_18 (by decide) ?_
    exact B19 _ _ _ _ hf H locs hP hD hS ls (lv_sub hl [0, 1, 2] rfl)
  intro H locs hP hD hS ls hl
  have hl : lv_has ls 10 [(0, .ref (A 0)), (1, .int x1), (2, .int x2)] := hl
  unfold fX6_walk at hf
  refine lv_iload_n hx hb dX6_walk_0 rfl (lv_at hl 1 rfl) ?_
  obtain ⟨q1, h1, hf⟩ := bd_t hf
  refine cl_i (va_runS (As := [.int x1]) (rest := []) S (mX6_isHouse l D cI cZ x1 H.size q1 h1) (va_cwS 1 hts gX6_walk_X6_isHouse rfl rfl rfl (by decide +kernel) ⟨Nat.le_of_ble_eq_true rfl, Nat.le_of_ble_eq_true rfl⟩) (mP_S (Cut.nil _) hP hD hK hG) rfl rfl hl.1 rfl (lv_room (Nat.le_of_ble_eq_true rfl)) dX6_walk_1 ⟨Nat.le_refl _, Nat.le_refl _⟩) (Cut.nil _) hP hD hS hA (fun H locs hP hD hS => ?_)
  refine lv_if_eq (tgt := 18) hx hb dX6_walk_4 (by decide) (fun c4 => ?_) (fun c4 => ?_)
  · have hf := if_t c4 hf
    exact B18 _ _ _ hf H locs hP hD hS ls (lv_sub hl [0, 1, 2] rfl)
  · have hf := if_f c4 hf
    refine lv_iload_n hx hb dX6_walk_7 rfl (lv_at hl 2 rfl) ?_
    obtain ⟨q8, h8, hf⟩ := bd_t hf
    refine cl_i (va_runS (As := [.int x2]) (rest := []) S (mX6_isHouse l D cI cZ x2 H.size q8 h8) (va_cwS 1 hts gX6_walk_X6_isHouse rfl rfl rfl (by decide +kernel) ⟨Nat.le_of_ble_eq_true rfl, Nat.le_of_ble_eq_true rfl⟩) (mP_S (Cut.nil _) hP hD hK hG) rfl rfl hl.1 rfl (lv_room (Nat.le_of_ble_eq_true rfl)) dX6_walk_8 ⟨Nat.le_refl _, Nat.le_refl _⟩) (Cut.nil _) hP hD hS hA (fun H locs hP hD hS => ?_)
    refine lv_if_eq (tgt := 18) hx hb dX6_walk_11 (by decide) (fun c11 => ?_) (fun c11 => ?_)
    · have hf := if_t c11 hf
      exact B18 _ _ _ hf H locs hP hD hS ls (lv_sub hl [0, 1, 2] rfl)
    · have hf := if_f c11 hf
      refine lv_iconst (v := 1) hx hb dX6_walk_14 (by decide) ?_
      refine lv_goto (tgt := 19) hx hb dX6_walk_15 (by decide) ?_
      exact B19 _ _ _ _ hf H locs hP hD hS ls (lv_sub hl [0, 1, 2] rfl)

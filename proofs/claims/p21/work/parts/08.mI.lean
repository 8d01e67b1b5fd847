set_option maxHeartbeats 8000000 in
set_option maxRecDepth 100000 in
theorem nX0_init (l : Launch) (D : va_G) (cI cZ : ClassId) (h0 : Nat) (sz : Nat) (res : St) (hf : fX0_init = some res) : Met l yX0_init wsX0_init ({ frames := 1, cells := 2, slots := 60, locals := 20 }) (mP D (tysX cI cZ) [.ref h0] [(h0, .inr (0, [.null, .null]))] sz) (mQn D (fun A => A 0 = h0) (fun A => wX0 cI cZ A res) [(h0, .inr (0, [.null, .null]))] sz) 2 60 (va_A [(h0, .inr (0, [.null, .null]))] sz) := by
  refine mkN (cc := cX0_init) (maxL := 2) (own := RX0) (by decide +kernel) rfl rfl (Nat.le_of_ble_eq_true rfl) rfl ?_
  intro p e s m args below meth c A0 Q S hK hG hA hin hR
  obtain ⟨hx, hb, hml, hown, hts⟩ := id S
  have k9 := hts (.fieldLink RX0 9 "SwitchFloor$Lanes" "carried" "[I") (by decide +kernel)
  have iX0 : ∀ w ∈ wsX00, w ∈ wsX0_init := by decide +kernel
  have k15 := hts (.fieldLink RX0 15 "SwitchFloor$Lanes" "untagged" "[I") (by decide +kernel)
  intro H locs hP hD hS ls hl
  have hl : lv_has ls 2 [(0, .ref h0)] := hl
  refine lv_aload_n hx hb dX0_init_0 rfl (lv_at hl 0 rfl) ?_
  refine W.objInit hx hb hown (hts (.methodLink RX0 3 objectInit) (by decide +kernel)) (hts (.instanceMethod objectInit) (by decide +kernel)) (hts (.code objectInit ⟨#[0xb1]⟩ 1 none) (by decide +kernel)) rfl (by rw [hml]; exact hl.1) rfl dX0_init_1 (Nat.le_of_ble_eq_true rfl) (Nat.le_of_ble_eq_true rfl) ?_
  refine W.eq (g2 := F0 m 4 ls []) rfl ?_
  refine lv_aload_n hx hb dX0_init_4 rfl (lv_at hl 0 rfl) ?_
  refine lv_bipush (v := 30) hx hb dX0_init_5 (by decide) ?_
  refine nw_i hx hb (hts (.arrayClass .int) (by decide +kernel)) hK hP hD hS hA 0 rfl 30 (by decide) (by decide) (by decide) (Nat.le_of_ble_eq_true rfl) (Nat.le_of_ble_eq_true rfl) dX0_init_7 (fun q1 H hP hD hS => ?_)
  have hP : va_P D vwCl [(h0, .inr (0, [.null, .null])), (q1, .inl (cI, 30, .inl (fun _ => 0)))] H := hP
  have hD : va_D A0 [(h0, .inr (0, [.null, .null])), (q1, .inl (cI, 30, .inl (fun _ => 0)))] := hD
  refine W.widen (k := 1) (n := 30) (Nat.le_refl _) (Nat.le_refl _) ?_
  refine va_putF (D := D) (ci := 0) (v := .ref q1) (ty := .array .int) (C := RX0) (T := TX0) (N := 2) hx hb hts iX0 tyX0 tyX0_ok nmX0 hown hK hP hD hS 0 rfl rfl 0 (by decide) k9 (fun _ h9 => h9) rfl hin rfl (by decide +kernel) rfl rfl (Nat.le_of_ble_eq_true rfl) dX0_init_9 (fun H locs hP hD hS => ?_)
  have hP : va_P D vwCl [(h0, .inr (0, [.ref q1, .null])), (q1, .inl (cI, 30, .inl (fun _ => 0)))] H := hP
  have hD : va_D A0 [(h0, .inr (0, [.ref q1, .null])), (q1, .inl (cI, 30, .inl (fun _ => 0)))] := hD
  refine lv_aload_n hx hb dX0_init_12 rfl (lv_at hl 0 rfl) ?_
  refine lv_bipush (v := 30) hx hb dX0_init_13 (by decide) ?_
  refine nw_i hx hb (hts (.arrayClass .int) (by decide +kernel)) hK hP hD hS hA 0 rfl 30 (by decide) (by decide) (by decide) (Nat.le_of_ble_eq_true rfl) (Nat.le_of_ble_eq_true rfl) dX0_init_15 (fun q2 H hP hD hS => ?_)
  have hP : va_P D vwCl [(h0, .inr (0, [.ref q1, .null])), (q1, .inl (cI, 30, .inl (fun _ => 0))), (q2, .inl (cI, 30, .inl (fun _ => 0)))] H := hP
  have hD : va_D A0 [(h0, .inr (0, [.ref q1, .null])), (q1, .inl (cI, 30, .inl (fun _ => 0))), (q2, .inl (cI, 30, .inl (fun _ => 0)))] := hD
  refine W.widen (k := 2) (n := 60) (Nat.le_refl _) (Nat.le_refl _) ?_
  refine va_putF (D := D) (ci := 0) (v := .ref q2) (ty := .array .int) (C := RX0) (T := TX0) (N := 2) hx hb hts iX0 tyX0 tyX0_ok nmX0 hown hK hP hD hS 0 rfl rfl 1 (by decide) k15 (fun _ h9 => h9) rfl hin rfl (by decide +kernel) rfl rfl (Nat.le_of_ble_eq_true rfl) dX0_init_17 (fun H locs hP hD hS => ?_)
  have hP : va_P D vwCl [(h0, .inr (0, [.ref q1, .ref q2])), (q1, .inl (cI, 30, .inl (fun _ => 0))), (q2, .inl (cI, 30, .inl (fun _ => 0)))] H := hP
  have hD : va_D A0 [(h0, .inr (0, [.ref q1, .ref q2])), (q1, .inl (cI, 30, .inl (fun _ => 0))), (q2, .inl (cI, 30, .inl (fun _ => 0)))] := hD
  obtain ⟨A, eA⟩ : ∃ A : Nat → Nat, A = fun j => List.getD [h0, q1, q2] j 0 := ⟨_, rfl⟩
  have e0 : A 0 = h0 := by rw [eA]; rfl
  have hP : va_P D vwCl (wX0 cI cZ A st0) H := by rw [eA]; exact hP
  have hD : va_D A0 (wX0 cI cZ A st0) := by rw [eA]; exact hD
  have hl : lv_has ls 2 [(0, .ref (A 0))] := by rw [e0]; exact lv_sub hl [0] rfl
  have B22 : ∀ (cl : St) (x1 : Int32), fX0_init_L22 cl x1 = some res → Bk p l e ({ frames := 1, cells := 2, slots := 60, locals := 20 }) s m args below meth c Q A0 D 2 2 60 (wX0 cI cZ A cl) [(0, .ref (A 0)), (1, .int x1)] 22 [] := by
    intro cl x1 hf
    refine loop_ind (step := (fun k a => fX0_init_S22 k (a.1) (a.2))) (fun a => Bk p l e ({ frames := 1, cells := 2, slots := 60, locals := 20 }) s m args below meth c Q A0 D 2 2 60 (wX0 cI cZ A (a.1)) [(0, .ref (A 0)), (1, .int (a.2))] 22 []) ?_ _ _ hf
    clear hf
    intro k22 hk22 a hf
    obtain ⟨cl_, x1_⟩ := a
    clear cl x1
    obtain ⟨cl, e_⟩ : ∃ z, z = cl_ := ⟨_, rfl⟩
    subst e_
    obtain ⟨x1, e_⟩ : ∃ z, z = x1_ := ⟨_, rfl⟩
    subst e_
    have hf : fX0_init_S22 k22 cl x1 = some res := hf
    show Bk p l e ({ frames := 1, cells := 2, slots := 60, locals := 20 }) s m args below meth c Q A0 D 2 2 60 (wX0 cI cZ A cl) [(0, .ref (A 0)), (1, .int x1)] 22 []
    unfold fX0_init_S22 at hf
    intro H locs hP hD hS ls hl
    refine lv_iload_n hx hb dX0_init_22 rfl (lv_at hl 1 rfl) ?_
    refine lv_bipush (v := 30) hx hb dX0_init_23 (by decide) ?_
    refine lv_icmp_ge (tgt := 48) hx hb dX0_init_25 (by decide) (fun c25 => ?_) (fun c25 => ?_)
    · have hf := if_t c25 hf
      exact hR _ ls H locs A _ e0 (congrArg (fun q => (wX0 cI cZ A q)) (Option.some.inj hf)) dX0_init_48 hP hD hS
    · have hf := if_f c25 hf
      refine lv_aload_n hx hb dX0_init_28 rfl (lv_at hl 0 rfl) ?_
      refine ld_f S iX0 hK hP 0 0 (.ref (A 1)) (gX0_0 _ _ _ _) rfl (by decide) k9 rfl rfl dX0_init_29 ?_
      refine lv_iload_n hx hb dX0_init_32 rfl (lv_at hl 1 rfl) ?_
      refine lv_iconst (v := 1) hx hb dX0_init_33 (by decide) ?_
      obtain ⟨c34, hf⟩ := ck_t hf
      refine st_i hx hb hK hP hD hS 1 0 (sX0_1 _ _ _ _ _ _) (gX0_1 _ _ _ _) rfl c34 dX0_init_34 (fun H locs hP hD hS => ?_)
      refine lv_aload_n hx hb dX0_init_35 rfl (lv_at hl 0 rfl) ?_
      refine ld_f S iX0 hK hP 0 1 (.ref (A 2)) (gX0_0 _ _ _ _) rfl (by decide) k15 rfl rfl dX0_init_36 ?_
      refine lv_iload_n hx hb dX0_init_39 rfl (lv_at hl 1 rfl) ?_
      refine lv_iconst (v := 1) hx hb dX0_init_40 (by decide) ?_
      obtain ⟨c41, hf⟩ := ck_t hf
      refine st_i hx hb hK hP hD hS 2 0 (sX0_2 _ _ _ _ _ _) (gX0_2 _ _ _ _) rfl c41 dX0_init_41 (fun H locs hP hD hS => ?_)
      refine lv_iinc (v := x1 + 1) (lv' := [(1, .int (x1 + 1)), (0, .ref (A 0))]) hx hb dX0_init_42 hl (k := 1) rfl rfl (by decide) rfl (fun ls hl => ?_)
      refine lv_goto (tgt := 22) hx hb dX0_init_45 (by decide) ?_
      exact hk22 _ hf H locs hP hD hS ls (lv_sub hl [1, 0] rfl)
  unfold fX0_init at hf
  refine lv_iconst (v := 0) hx hb dX0_init_20 (by decide) ?_
  refine lv_istore_n (lv' := [(1, .int 0), (0, .ref (A 0))]) hx hb dX0_init_21 rfl hl (by decide) rfl (fun ls hl => ?_)
  exact B22 _ _ hf H locs hP hD hS ls (lv_sub hl [1, 0] rfl)
set_option maxHeartbeats 8000000 in
set_option maxRecDepth 100000 in
theorem nX1_init (l : Launch) (D : va_G) (cI cZ : ClassId) (h0 : Nat) (sz : Nat) (res : St) (hf : fX1_init = some res) : Met l yX1_init wsX1_init ({ frames := 1, cells := 4, slots := 1600, locals := 20 }) (mP D (tysX cI cZ) [.ref h0] [(h0, .inr (1, [.null, .null, .null, .null, .int 0]))] sz) (mQn D (fun A => A 0 = h0) (fun A => wX1 cI cZ A res) [(h0, .inr (1, [.null, .null, .null, .null, .int 0]))] sz) 4 1600 (va_A [(h0, .inr (1, [.null, .null, .null, .null, .int 0]))] sz) := by
  refine mkN (cc := cX1_init) (maxL := 1) (own := RX1) (by decide +kernel) rfl rfl (Nat.le_of_ble_eq_true rfl) rfl ?_
  intro p e s m args below meth c A0 Q S hK hG hA hin hR
  obtain ⟨hx, hb, hml, hown, hts⟩ := id S
  have k9 := hts (.fieldLink RX1 9 "SwitchFloor$Steps" "spot" "[I") (by decide +kernel)
  have iX1 : ∀ w ∈ wsX10, w ∈ wsX1_init := by decide +kernel
  have k15 := hts (.fieldLink RX1 15 "SwitchFloor$Steps" "tag" "[I") (by decide +kernel)
  have k18 := hts (.fieldLink RX1 18 "SwitchFloor$Steps" "second" "[I") (by decide +kernel)
  have k21 := hts (.fieldLink RX1 21 "SwitchFloor$Steps" "hops" "[I") (by decide +kernel)
  intro H locs hP hD hS ls hl
  have hl : lv_has ls 1 [(0, .ref h0)] := hl
  refine lv_aload_n hx hb dX1_init_0 rfl (lv_at hl 0 rfl) ?_
  refine W.objInit hx hb hown (hts (.methodLink RX1 3 objectInit) (by decide +kernel)) (hts (.instanceMethod objectInit) (by decide +kernel)) (hts (.code objectInit ⟨#[0xb1]⟩ 1 none) (by decide +kernel)) rfl (by rw [hml]; exact hl.1) rfl dX1_init_1 (Nat.le_of_ble_eq_true rfl) (Nat.le_of_ble_eq_true rfl) ?_
  refine W.eq (g2 := F0 m 4 ls []) rfl ?_
  refine lv_aload_n hx hb dX1_init_4 rfl (lv_at hl 0 rfl) ?_
  refine lv_sipush (v := 400) hx hb dX1_init_5 (by decide) ?_
  refine nw_i hx hb (hts (.arrayClass .int) (by decide +kernel)) hK hP hD hS hA 0 rfl 400 (by decide) (by decide) (by decide) (Nat.le_of_ble_eq_true rfl) (Nat.le_of_ble_eq_true rfl) dX1_init_8 (fun q1 H hP hD hS => ?_)
  have hP : va_P D vwCl [(h0, .inr (1, [.null, .null, .null, .null, .int 0])), (q1, .inl (cI, 400, .inl (fun _ => 0)))] H := hP
  have hD : va_D A0 [(h0, .inr (1, [.null, .null, .null, .null, .int 0])), (q1, .inl (cI, 400, .inl (fun _ => 0)))] := hD
  refine W.widen (k := 1) (n := 400) (Nat.le_refl _) (Nat.le_refl _) ?_
  refine va_putF (D := D) (ci := 1) (v := .ref q1) (ty := .array .int) (C := RX1) (T := TX1) (N := 5) hx hb hts iX1 tyX1 tyX1_ok nmX1 hown hK hP hD hS 0 rfl rfl 0 (by decide) k9 (fun _ h9 => h9) rfl hin rfl (by decide +kernel) rfl rfl (Nat.le_of_ble_eq_true rfl) dX1_init_10 (fun H locs hP hD hS => ?_)
  have hP : va_P D vwCl [(h0, .inr (1, [.ref q1, .null, .null, .null, .int 0])), (q1, .inl (cI, 400, .inl (fun _ => 0)))] H := hP
  have hD : va_D A0 [(h0, .inr (1, [.ref q1, .null, .null, .null, .int 0])), (q1, .inl (cI, 400, .inl (fun _ => 0)))] := hD
  refine lv_aload_n hx hb dX1_init_13 rfl (lv_at hl 0 rfl) ?_
  refine lv_sipush (v := 400) hx hb dX1_init_14 (by decide) ?_
  refine nw_i hx hb (hts (.arrayClass .int) (by decide +kernel)) hK hP hD hS hA 0 rfl 400 (by decide) (by decide) (by decide) (Nat.le_of_ble_eq_true rfl) (Nat.le_of_ble_eq_true rfl) dX1_init_17 (fun q2 H hP hD hS => ?_)
  have hP : va_P D vwCl [(h0, .inr (1, [.ref q1, .null, .null, .null, .int 0])), (q1, .inl (cI, 400, .inl (fun _ => 0))), (q2, .inl (cI, 400, .inl (fun _ => 0)))] H := hP
  have hD : va_D A0 [(h0, .inr (1, [.ref q1, .null, .null, .null, .int 0])), (q1, .inl (cI, 400, .inl (fun _ => 0))), (q2, .inl (cI, 400, .inl (fun _ => 0)))] := hD
  refine W.widen (k := 2) (n := 800) (Nat.le_refl _) (Nat.le_refl _) ?_
  refine va_putF (D := D) (ci := 1) (v := .ref q2) (ty := .array .int) (C := RX1) (T := TX1) (N := 5) hx hb hts iX1 tyX1 tyX1_ok nmX1 hown hK hP hD hS 0 rfl rfl 1 (by decide) k15 (fun _ h9 => h9) rfl hin rfl (by decide +kernel) rfl rfl (Nat.le_of_ble_eq_true rfl) dX1_init_19 (fun H locs hP hD hS => ?_)
  have hP : va_P D vwCl [(h0, .inr (1, [.ref q1, .ref q2, .null, .null, .int 0])), (q1, .inl (cI, 400, .inl (fun _ => 0))), (q2, .inl (cI, 400, .inl (fun _ => 0)))] H := hP
  have hD : va_D A0 [(h0, .inr (1, [.ref q1, .ref q2, .null, .null, .int 0])), (q1, .inl (cI, 400, .inl (fun _ => 0))), (q2, .inl (cI, 400, .inl (fun _ => 0)))] := hD
  refine lv_aload_n hx hb dX1_init_22 rfl (lv_at hl 0 rfl) ?_
  refine lv_sipush (v := 400) hx hb dX1_init_23 (by decide) ?_
  refine nw_i hx hb (hts (.arrayClass .int) (by decide +kernel)) hK hP hD hS hA 0 rfl 400 (by decide) (by decide) (by decide) (Nat.le_of_ble_eq_true rfl) (Nat.le_of_ble_eq_true rfl) dX1_init_26 (fun q3 H hP hD hS => ?_)
  have hP : va_P D vwCl [(h0, .inr (1, [.ref q1, .ref q2, .null, .null, .int 0])), (q1, .inl (cI, 400, .inl (fun _ => 0))), (q2, .inl (cI, 400, .inl (fun _ => 0))), (q3, .inl (cI, 400, .inl (fun _ => 0)))] H := hP
  have hD : va_D A0 [(h0, .inr (1, [.ref q1, .ref q2, .null, .null, .int 0])), (q1, .inl (cI, 400, .inl (fun _ => 0))), (q2, .inl (cI, 400, .inl (fun _ => 0))), (q3, .inl (cI, 400, .inl (fun _ => 0)))] := hD
  refine W.widen (k := 3) (n := 1200) (Nat.le_refl _) (Nat.le_refl _) ?_
  refine va_putF (D := D) (ci := 1) (v := .ref q3) (ty := .array .int) (C := RX1) (T := TX1) (N := 5) hx hb hts iX1 tyX1 tyX1_ok nmX1 hown hK hP hD hS 0 rfl rfl 2 (by decide) k18 (fun _ h9 => h9) rfl hin rfl (by decide +kernel) rfl rfl (Nat.le_of_ble_eq_true rfl) dX1_init_28 (fun H locs hP hD hS => ?_)
  have hP : va_P D vwCl [(h0, .inr (1, [.ref q1, .ref q2, .ref q3, .null, .int 0])), (q1, .inl (cI, 400, .inl (fun _ => 0))), (q2, .inl (cI, 400, .inl (fun _ => 0))), (q3, .inl (cI, 400, .inl (fun _ => 0)))] H := hP
  have hD : va_D A0 [(h0, .inr (1, [.ref q1, .ref q2, .ref q3, .null, .int 0])), (q1, .inl (cI, 400, .inl (fun _ => 0))), (q2, .inl (cI, 400, .inl (fun _ => 0))), (q3, .inl (cI, 400, .inl (fun _ => 0)))] := hD
  refine lv_aload_n hx hb dX1_init_31 rfl (lv_at hl 0 rfl) ?_
  refine lv_sipush (v := 400) hx hb dX1_init_32 (by decide) ?_
  refine nw_i hx hb (hts (.arrayClass .int) (by decide +kernel)) hK hP hD hS hA 0 rfl 400 (by decide) (by decide) (by decide) (Nat.le_of_ble_eq_true rfl) (Nat.le_of_ble_eq_true rfl) dX1_init_35 (fun q4 H hP hD hS => ?_)
  have hP : va_P D vwCl [(h0, .inr (1, [.ref q1, .ref q2, .ref q3, .null, .int 0])), (q1, .inl (cI, 400, .inl (fun _ => 0))), (q2, .inl (cI, 400, .inl (fun _ => 0))), (q3, .inl (cI, 400, .inl (fun _ => 0))), (q4, .inl (cI, 400, .inl (fun _ => 0)))] H := hP
  have hD : va_D A0 [(h0, .inr (1, [.ref q1, .ref q2, .ref q3, .null, .int 0])), (q1, .inl (cI, 400, .inl (fun _ => 0))), (q2, .inl (cI, 400, .inl (fun _ => 0))), (q3, .inl (cI, 400, .inl (fun _ => 0))), (q4, .inl (cI, 400, .inl (fun _ => 0)))] := hD
  refine W.widen (k := 4) (n := 1600) (Nat.le_refl _) (Nat.le_refl _) ?_
  refine va_putF (D := D) (ci := 1) (v := .ref q4) (ty := .array .int) (C := RX1) (T := TX1) (N := 5) hx hb hts iX1 tyX1 tyX1_ok nmX1 hown hK hP hD hS 0 rfl rfl 3 (by decide) k21 (fun _ h9 => h9) rfl hin rfl (by decide +kernel) rfl rfl (Nat.le_of_ble_eq_true rfl) dX1_init_37 (fun H locs hP hD hS => ?_)
  have hP : va_P D vwCl [(h0, .inr (1, [.ref q1, .ref q2, .ref q3, .ref q4, .int 0])), (q1, .inl (cI, 400, .inl (fun _ => 0))), (q2, .inl (cI, 400, .inl (fun _ => 0))), (q3, .inl (cI, 400, .inl (fun _ => 0))), (q4, .inl (cI, 400, .inl (fun _ => 0)))] H := hP
  have hD : va_D A0 [(h0, .inr (1, [.ref q1, .ref q2, .ref q3, .ref q4, .int 0])), (q1, .inl (cI, 400, .inl (fun _ => 0))), (q2, .inl (cI, 400, .inl (fun _ => 0))), (q3, .inl (cI, 400, .inl (fun _ => 0))), (q4, .inl (cI, 400, .inl (fun _ => 0)))] := hD
  obtain ⟨A, eA⟩ : ∃ A : Nat → Nat, A = fun j => List.getD [h0, q1, q2, q3, q4] j 0 := ⟨_, rfl⟩
  have e0 : A 0 = h0 := by rw [eA]; rfl
  have hP : va_P D vwCl (wX1 cI cZ A st0) H := by rw [eA]; exact hP
  have hD : va_D A0 (wX1 cI cZ A st0) := by rw [eA]; exact hD
  have hl : lv_has ls 1 [(0, .ref (A 0))] := by rw [e0]; exact lv_sub hl [0] rfl
  unfold fX1_init at hf
  exact hR _ ls H locs A _ e0 (congrArg (fun q => (wX1 cI cZ A q)) (Option.some.inj hf)) dX1_init_40 hP hD hS
set_option maxHeartbeats 8000000 in
set_option maxRecDepth 100000 in
theorem nX2_init (l : Launch) (D : va_G) (cI cZ : ClassId) (h0 : Nat) (sz : Nat) (res : St) (hf : fX2_init = some res) : Met l yX2_init wsX2_init ({ frames := 1, cells := 3, slots := 366, locals := 20 }) (mP D (tysX cI cZ) [.ref h0] [(h0, .inr (2, [.null, .null, .null]))] sz) (mQn D (fun A => A 0 = h0) (fun A => wX2 cI cZ A res) [(h0, .inr (2, [.null, .null, .null]))] sz) 3 366 (va_A [(h0, .inr (2, [.null, .null, .null]))] sz) := by
  refine mkN (cc := cX2_init) (maxL := 2) (own := RX2) (by decide +kernel) rfl rfl (Nat.le_of_ble_eq_true rfl) rfl ?_
  intro p e s m args below meth c A0 Q S hK hG hA hin hR
  obtain ⟨hx, hb, hml, hown, hts⟩ := id S
  have k11 := hts (.fieldLink RX2 11 "SwitchFloor$Tables" "heardBy" "[I") (by decide +kernel)
  have iX2 : ∀ w ∈ wsX20, w ∈ wsX2_init := by decide +kernel
  have k15 := hts (.fieldLink RX2 15 "SwitchFloor$Tables" "heardAt" "[I") (by decide +kernel)
  have k18 := hts (.fieldLink RX2 18 "SwitchFloor$Tables" "entries" "[I") (by decide +kernel)
  intro H locs hP hD hS ls hl
  have hl : lv_has ls 2 [(0, .ref h0)] := hl
  refine lv_aload_n hx hb dX2_init_0 rfl (lv_at hl 0 rfl) ?_
  refine W.objInit hx hb hown (hts (.methodLink RX2 3 objectInit) (by decide +kernel)) (hts (.instanceMethod objectInit) (by decide +kernel)) (hts (.code objectInit ⟨#[0xb1]⟩ 1 none) (by decide +kernel)) rfl (by rw [hml]; exact hl.1) rfl dX2_init_1 (Nat.le_of_ble_eq_true rfl) (Nat.le_of_ble_eq_true rfl) ?_
  refine W.eq (g2 := F0 m 4 ls []) rfl ?_
  refine lv_aload_n hx hb dX2_init_4 rfl (lv_at hl 0 rfl) ?_
  refine lv_sipush (v := 180) hx hb dX2_init_5 (by decide) ?_
  refine nw_i hx hb (hts (.arrayClass .int) (by decide +kernel)) hK hP hD hS hA 0 rfl 180 (by decide) (by decide) (by decide) (Nat.le_of_ble_eq_true rfl) (Nat.le_of_ble_eq_true rfl) dX2_init_8 (fun q1 H hP hD hS => ?_)
  have hP : va_P D vwCl [(h0, .inr (2, [.null, .null, .null])), (q1, .inl (cI, 180, .inl (fun _ => 0)))] H := hP
  have hD : va_D A0 [(h0, .inr (2, [.null, .null, .null])), (q1, .inl (cI, 180, .inl (fun _ => 0)))] := hD
  refine W.widen (k := 1) (n := 180) (Nat.le_refl _) (Nat.le_refl _) ?_
  refine va_putF (D := D) (ci := 2) (v := .ref q1) (ty := .array .int) (C := RX2) (T := TX2) (N := 3) hx hb hts iX2 tyX2 tyX2_ok nmX2 hown hK hP hD hS 0 rfl rfl 0 (by decide) k11 (fun _ h9 => h9) rfl hin rfl (by decide +kernel) rfl rfl (Nat.le_of_ble_eq_true rfl) dX2_init_10 (fun H locs hP hD hS => ?_)
  have hP : va_P D vwCl [(h0, .inr (2, [.ref q1, .null, .null])), (q1, .inl (cI, 180, .inl (fun _ => 0)))] H := hP
  have hD : va_D A0 [(h0, .inr (2, [.ref q1, .null, .null])), (q1, .inl (cI, 180, .inl (fun _ => 0)))] := hD
  refine lv_aload_n hx hb dX2_init_13 rfl (lv_at hl 0 rfl) ?_
  refine lv_sipush (v := 180) hx hb dX2_init_14 (by decide) ?_
  refine nw_i hx hb (hts (.arrayClass .int) (by decide +kernel)) hK hP hD hS hA 0 rfl 180 (by decide) (by decide) (by decide) (Nat.le_of_ble_eq_true rfl) (Nat.le_of_ble_eq_true rfl) dX2_init_17 (fun q2 H hP hD hS => ?_)
  have hP : va_P D vwCl [(h0, .inr (2, [.ref q1, .null, .null])), (q1, .inl (cI, 180, .inl (fun _ => 0))), (q2, .inl (cI, 180, .inl (fun _ => 0)))] H := hP
  have hD : va_D A0 [(h0, .inr (2, [.ref q1, .null, .null])), (q1, .inl (cI, 180, .inl (fun _ => 0))), (q2, .inl (cI, 180, .inl (fun _ => 0)))] := hD
  refine W.widen (k := 2) (n := 360) (Nat.le_refl _) (Nat.le_refl _) ?_
  refine va_putF (D := D) (ci := 2) (v := .ref q2) (ty := .array .int) (C := RX2) (T := TX2) (N := 3) hx hb hts iX2 tyX2 tyX2_ok nmX2 hown hK hP hD hS 0 rfl rfl 1 (by decide) k15 (fun _ h9 => h9) rfl hin rfl (by decide +kernel) rfl rfl (Nat.le_of_ble_eq_true rfl) dX2_init_19 (fun H locs hP hD hS => ?_)
  have hP : va_P D vwCl [(h0, .inr (2, [.ref q1, .ref q2, .null])), (q1, .inl (cI, 180, .inl (fun _ => 0))), (q2, .inl (cI, 180, .inl (fun _ => 0)))] H := hP
  have hD : va_D A0 [(h0, .inr (2, [.ref q1, .ref q2, .null])), (q1, .inl (cI, 180, .inl (fun _ => 0))), (q2, .inl (cI, 180, .inl (fun _ => 0)))] := hD
  refine lv_aload_n hx hb dX2_init_22 rfl (lv_at hl 0 rfl) ?_
  refine lv_bipush (v := 6) hx hb dX2_init_23 (by decide) ?_
  refine nw_i hx hb (hts (.arrayClass .int) (by decide +kernel)) hK hP hD hS hA 0 rfl 6 (by decide) (by decide) (by decide) (Nat.le_of_ble_eq_true rfl) (Nat.le_of_ble_eq_true rfl) dX2_init_25 (fun q3 H hP hD hS => ?_)
  have hP : va_P D vwCl [(h0, .inr (2, [.ref q1, .ref q2, .null])), (q1, .inl (cI, 180, .inl (fun _ => 0))), (q2, .inl (cI, 180, .inl (fun _ => 0))), (q3, .inl (cI, 6, .inl (fun _ => 0)))] H := hP
  have hD : va_D A0 [(h0, .inr (2, [.ref q1, .ref q2, .null])), (q1, .inl (cI, 180, .inl (fun _ => 0))), (q2, .inl (cI, 180, .inl (fun _ => 0))), (q3, .inl (cI, 6, .inl (fun _ => 0)))] := hD
  refine W.widen (k := 3) (n := 366) (Nat.le_refl _) (Nat.le_refl _) ?_
  refine va_putF (D := D) (ci := 2) (v := .ref q3) (ty := .array .int) (C := RX2) (T := TX2) (N := 3) hx hb hts iX2 tyX2 tyX2_ok nmX2 hown hK hP hD hS 0 rfl rfl 2 (by decide) k18 (fun _ h9 => h9) rfl hin rfl (by decide +kernel) rfl rfl (Nat.le_of_ble_eq_true rfl) dX2_init_27 (fun H locs hP hD hS => ?_)
  have hP : va_P D vwCl [(h0, .inr (2, [.ref q1, .ref q2, .ref q3])), (q1, .inl (cI, 180, .inl (fun _ => 0))), (q2, .inl (cI, 180, .inl (fun _ => 0))), (q3, .inl (cI, 6, .inl (fun _ => 0)))] H := hP
  have hD : va_D A0 [(h0, .inr (2, [.ref q1, .ref q2, .ref q3])), (q1, .inl (cI, 180, .inl (fun _ => 0))), (q2, .inl (cI, 180, .inl (fun _ => 0))), (q3, .inl (cI, 6, .inl (fun _ => 0)))] := hD
  obtain ⟨A, eA⟩ : ∃ A : Nat → Nat, A = fun j => List.getD [h0, q1, q2, q3] j 0 := ⟨_, rfl⟩
  have e0 : A 0 = h0 := by rw [eA]; rfl
  have hP : va_P D vwCl (wX2 cI cZ A st0) H := by rw [eA]; exact hP
  have hD : va_D A0 (wX2 cI cZ A st0) := by rw [eA]; exact hD
  have hl : lv_has ls 2 [(0, .ref (A 0))] := by rw [e0]; exact lv_sub hl [0] rfl
  have B32 : ∀ (cb : St) (x1 : Int32), fX2_init_L32 cb x1 = some res → Bk p l e ({ frames := 1, cells := 3, slots := 366, locals := 20 }) s m args below meth c Q A0 D 2 3 366 (wX2 cI cZ A cb) [(0, .ref (A 0)), (1, .int x1)] 32 [] := by
    intro cb x1 hf
    refine loop_ind (step := (fun k a => fX2_init_S32 k (a.1) (a.2))) (fun a => Bk p l e ({ frames := 1, cells := 3, slots := 366, locals := 20 }) s m args below meth c Q A0 D 2 3 366 (wX2 cI cZ A (a.1)) [(0, .ref (A 0)), (1, .int (a.2))] 32 []) ?_ _ _ hf
    clear hf
    intro k32 hk32 a hf
    obtain ⟨cb_, x1_⟩ := a
    clear cb x1
    obtain ⟨cb, e_⟩ : ∃ z, z = cb_ := ⟨_, rfl⟩
    subst e_
    obtain ⟨x1, e_⟩ : ∃ z, z = x1_ := ⟨_, rfl⟩
    subst e_
    have hf : fX2_init_S32 k32 cb x1 = some res := hf
    show Bk p l e ({ frames := 1, cells := 3, slots := 366, locals := 20 }) s m args below meth c Q A0 D 2 3 366 (wX2 cI cZ A cb) [(0, .ref (A 0)), (1, .int x1)] 32 []
    unfold fX2_init_S32 at hf
    intro H locs hP hD hS ls hl
    refine lv_iload_n hx hb dX2_init_32 rfl (lv_at hl 1 rfl) ?_
    refine lv_sipush (v := 180) hx hb dX2_init_33 (by decide) ?_
    refine lv_icmp_ge (tgt := 52) hx hb dX2_init_36 (by decide) (fun c36 => ?_) (fun c36 => ?_)
    · have hf := if_t c36 hf
      exact hR _ ls H locs A _ e0 (congrArg (fun q => (wX2 cI cZ A q)) (Option.some.inj hf)) dX2_init_52 hP hD hS
    · have hf := if_f c36 hf
      refine lv_aload_n hx hb dX2_init_39 rfl (lv_at hl 0 rfl) ?_
      refine ld_f S iX2 hK hP 0 0 (.ref (A 1)) (gX2_0 _ _ _ _) rfl (by decide) k11 rfl rfl dX2_init_40 ?_
      refine lv_iload_n hx hb dX2_init_43 rfl (lv_at hl 1 rfl) ?_
      refine lv_iconst (v := (-1)) hx hb dX2_init_44 (by decide) ?_
      obtain ⟨c45, hf⟩ := ck_t hf
      refine st_i hx hb hK hP hD hS 1 0 (sX2_1 _ _ _ _ _ _) (gX2_1 _ _ _ _) rfl c45 dX2_init_45 (fun H locs hP hD hS => ?_)
      refine lv_iinc (v := x1 + 1) (lv' := [(1, .int (x1 + 1)), (0, .ref (A 0))]) hx hb dX2_init_46 hl (k := 1) rfl rfl (by decide) rfl (fun ls hl => ?_)
      refine lv_goto (tgt := 32) hx hb dX2_init_49 (by decide) ?_
      exact hk32 _ hf H locs hP hD hS ls (lv_sub hl [1, 0] rfl)
  unfold fX2_init at hf
  refine lv_iconst (v := 0) hx hb dX2_init_30 (by decide) ?_
  refine lv_istore_n (lv' := [(1, .int 0), (0, .ref (A 0))]) hx hb dX2_init_31 rfl hl (by decide) rfl (fun ls hl => ?_)
  exact B32 _ _ hf H locs hP hD hS ls (lv_sub hl [1, 0] rfl)
set_option maxHeartbeats 8000000 in
set_option maxRecDepth 100000 in
theorem nX3_init (l : Launch) (D : va_G) (cI cZ : ClassId) (h0 : Nat) (aw : Nat) (sz : Nat) (res : St) (hf : fX3_init = some res) : Met l yX3_init wsX3_init ({ frames := 1, cells := 14, slots := 276, locals := 20 }) (mP D (tysX cI cZ) [.ref h0, .ref aw] [(h0, .inr (3, [.null, .null, .null, .null, .null, .null, .null, .null, .null, .int 0, .null, .null, .null, .null, .null, .null]))] sz) (mQn D (fun A => A 0 = h0) (fun A => wX3t cI cZ (fun j => bif Nat.beq j 15 then aw else A j) res) [(h0, .inr (3, [.null, .null, .null, .null, .null, .null, .null, .null, .null, .int 0, .null, .null, .null, .null, .null, .null]))] sz) 14 276 (va_A [(h0, .inr (3, [.null, .null, .null, .null, .null, .null, .null, .null, .null, .int 0, .null, .null, .null, .null, .null, .null]))] sz) := by
  refine mkN (cc := cX3_init) (maxL := 3) (own := RX3) (by decide +kernel) rfl rfl (Nat.le_of_ble_eq_true rfl) rfl ?_
  intro p e s m args below meth c A0 Q S hK hG hA hin hR
  obtain ⟨hx, hb, hml, hown, hts⟩ := id S
  have k9 := hts (.fieldLink RX3 9 "SwitchFloor$Tree" "root" "[I") (by decide +kernel)
  have iX3 : ∀ w ∈ wsX30, w ∈ wsX3_init := by decide +kernel
  have k15 := hts (.fieldLink RX3 15 "SwitchFloor$Tree" "cost" "[I") (by decide +kernel)
  have k18 := hts (.fieldLink RX3 18 "SwitchFloor$Tree" "hops" "[I") (by decide +kernel)
  have k21 := hts (.fieldLink RX3 21 "SwitchFloor$Tree" "rootPort" "[I") (by decide +kernel)
  have k24 := hts (.fieldLink RX3 24 "SwitchFloor$Tree" "shutTill" "[I") (by decide +kernel)
  have k27 := hts (.fieldLink RX3 27 "SwitchFloor$Tree" "open" "[Z") (by decide +kernel)
  have k31 := hts (.fieldLink RX3 31 "SwitchFloor$Tree" "role" "[I") (by decide +kernel)
  have k34 := hts (.fieldLink RX3 34 "SwitchFloor$Tree" "waited" "[I") (by decide +kernel)
  have k37 := hts (.fieldLink RX3 37 "SwitchFloor$Tree" "toldRoot" "[I") (by decide +kernel)
  have k40 := hts (.fieldLink RX3 40 "SwitchFloor$Tree" "toldCost" "[I") (by decide +kernel)
  have k43 := hts (.fieldLink RX3 43 "SwitchFloor$Tree" "toldHops" "[I") (by decide +kernel)
  have k46 := hts (.fieldLink RX3 46 "SwitchFloor$Tree" "caught" "[Z") (by decide +kernel)
  have k49 := hts (.fieldLink RX3 49 "SwitchFloor$Tree" "stale" "[Z") (by decide +kernel)
  have k52 := hts (.fieldLink RX3 52 "SwitchFloor$Tree" "way" "[I") (by decide +kernel)
  have k55 := hts (.fieldLink RX3 55 "SwitchFloor$Tree" "wiring" "LSwitchFloor$Wiring;") (by decide +kernel)
  intro H locs hP hD hS ls hl
  have hl : lv_has ls 3 [(0, .ref h0), (1, .ref aw)] := hl
  refine lv_aload_n hx hb dX3_init_0 rfl (lv_at hl 0 rfl) ?_
  refine W.objInit hx hb hown (hts (.methodLink RX3 3 objectInit) (by decide +kernel)) (hts (.instanceMethod objectInit) (by decide +kernel)) (hts (.code objectInit ⟨#[0xb1]⟩ 1 none) (by decide +kernel)) rfl (by rw [hml]; exact hl.1) rfl dX3_init_1 (Nat.le_of_ble_eq_true rfl) (Nat.le_of_ble_eq_true rfl) ?_
  refine W.eq (g2 := F0 m 4 ls []) rfl ?_
  refine lv_aload_n hx hb dX3_init_4 rfl (lv_at hl 0 rfl) ?_
  refine lv_bipush (v := 6) hx hb dX3_init_5 (by decide) ?_
  refine nw_i hx hb (hts (.arrayClass .int) (by decide +kernel)) hK hP hD hS hA 0 rfl 6 (by decide) (by decide) (by decide) (Nat.le_of_ble_eq_true rfl) (Nat.le_of_ble_eq_true rfl) dX3_init_7 (fun q1 H hP hD hS => ?_)
  have hP : va_P D vwCl [(h0, .inr (3, [.null, .null, .null, .null, .null, .null, .null, .null, .null, .int 0, .null, .null, .null, .null, .null, .null])), (q1, .inl (cI, 6, .inl (fun _ => 0)))] H := hP
  have hD : va_D A0 [(h0, .inr (3, [.null, .null, .null, .null, .null, .null, .null, .null, .null, .int 0, .null, .null, .null, .null, .null, .null])), (q1, .inl (cI, 6, .inl (fun _ => 0)))] := hD
  refine W.widen (k := 1) (n := 6) (Nat.le_refl _) (Nat.le_refl _) ?_
  refine va_putF (D := D) (ci := 3) (v := .ref q1) (ty := .array .int) (C := RX3) (T := TX3) (N := 16) hx hb hts iX3 tyX3 tyX3_ok nmX3 hown hK hP hD hS 0 rfl rfl 1 (by decide) k9 (fun _ h9 => h9) rfl hin rfl (by decide +kernel) rfl rfl (Nat.le_of_ble_eq_true rfl) dX3_init_9 (fun H locs hP hD hS => ?_)
  have hP : va_P D vwCl [(h0, .inr (3, [.null, .ref q1, .null, .null, .null, .null, .null, .null, .null, .int 0, .null, .null, .null, .null, .null, .null])), (q1, .inl (cI, 6, .inl (fun _ => 0)))] H := hP
  have hD : va_D A0 [(h0, .inr (3, [.null, .ref q1, .null, .null, .null, .null, .null, .null, .null, .int 0, .null, .null, .null, .null, .null, .null])), (q1, .inl (cI, 6, .inl (fun _ => 0)))] := hD
  refine lv_aload_n hx hb dX3_init_12 rfl (lv_at hl 0 rfl) ?_
  refine lv_bipush (v := 6) hx hb dX3_init_13 (by decide) ?_
  refine nw_i hx hb (hts (.arrayClass .int) (by decide +kernel)) hK hP hD hS hA 0 rfl 6 (by decide) (by decide) (by decide) (Nat.le_of_ble_eq_true rfl) (Nat.le_of_ble_eq_true rfl) dX3_init_15 (fun q2 H hP hD hS => ?_)
  have hP : va_P D vwCl [(h0, .inr (3, [.null, .ref q1, .null, .null, .null, .null, .null, .null, .null, .int 0, .null, .null, .null, .null, .null, .null])), (q1, .inl (cI, 6, .inl (fun _ => 0))), (q2, .inl (cI, 6, .inl (fun _ => 0)))] H := hP
  have hD : va_D A0 [(h0, .inr (3, [.null, .ref q1, .null, .null, .null, .null, .null, .null, .null, .int 0, .null, .null, .null, .null, .null, .null])), (q1, .inl (cI, 6, .inl (fun _ => 0))), (q2, .inl (cI, 6, .inl (fun _ => 0)))] := hD
  refine W.widen (k := 2) (n := 12) (Nat.le_refl _) (Nat.le_refl _) ?_
  refine va_putF (D := D) (ci := 3) (v := .ref q2) (ty := .array .int) (C := RX3) (T := TX3) (N := 16) hx hb hts iX3 tyX3 tyX3_ok nmX3 hown hK hP hD hS 0 rfl rfl 2 (by decide) k15 (fun _ h9 => h9) rfl hin rfl (by decide +kernel) rfl rfl (Nat.le_of_ble_eq_true rfl) dX3_init_17 (fun H locs hP hD hS => ?_)
  have hP : va_P D vwCl [(h0, .inr (3, [.null, .ref q1, .ref q2, .null, .null, .null, .null, .null, .null, .int 0, .null, .null, .null, .null, .null, .null])), (q1, .inl (cI, 6, .inl (fun _ => 0))), (q2, .inl (cI, 6, .inl (fun _ => 0)))] H := hP
  have hD : va_D A0 [(h0, .inr (3, [.null, .ref q1, .ref q2, .null, .null, .null, .null, .null, .null, .int 0, .null, .null, .null, .null, .null, .null])), (q1, .inl (cI, 6, .inl (fun _ => 0))), (q2, .inl (cI, 6, .inl (fun _ => 0)))] := hD
  refine lv_aload_n hx hb dX3_init_20 rfl (lv_at hl 0 rfl) ?_
  refine lv_bipush (v := 6) hx hb dX3_init_21 (by decide) ?_
  refine nw_i hx hb (hts (.arrayClass .int) (by decide +kernel)) hK hP hD hS hA 0 rfl 6 (by decide) (by decide) (by decide) (Nat.le_of_ble_eq_true rfl) (Nat.le_of_ble_eq_true rfl) dX3_init_23 (fun q3 H hP hD hS => ?_)
  have hP : va_P D vwCl [(h0, .inr (3, [.null, .ref q1, .ref q2, .null, .null, .null, .null, .null, .null, .int 0, .null, .null, .null, .null, .null, .null])), (q1, .inl (cI, 6, .inl (fun _ => 0))), (q2, .inl (cI, 6, .inl (fun _ => 0))), (q3, .inl (cI, 6, .inl (fun _ => 0)))] H := hP
  have hD : va_D A0 [(h0, .inr (3, [.null, .ref q1, .ref q2, .null, .null, .null, .null, .null, .null, .int 0, .null, .null, .null, .null, .null, .null])), (q1, .inl (cI, 6, .inl (fun _ => 0))), (q2, .inl (cI, 6, .inl (fun _ => 0))), (q3, .inl (cI, 6, .inl (fun _ => 0)))] := hD
  refine W.widen (k := 3) (n := 18) (Nat.le_refl _) (Nat.le_refl _) ?_
  refine va_putF (D := D) (ci := 3) (v := .ref q3) (ty := .array .int) (C := RX3) (T := TX3) (N := 16) hx hb hts iX3 tyX3 tyX3_ok nmX3 hown hK hP hD hS 0 rfl rfl 3 (by decide) k18 (fun _ h9 => h9) rfl hin rfl (by decide +kernel) rfl rfl (Nat.le_of_ble_eq_true rfl) dX3_init_25 (fun H locs hP hD hS => ?_)
  have hP : va_P D vwCl [(h0, .inr (3, [.null, .ref q1, .ref q2, .ref q3, .null, .null, .null, .null, .null, .int 0, .null, .null, .null, .null, .null, .null])), (q1, .inl (cI, 6, .inl (fun _ => 0))), (q2, .inl (cI, 6, .inl (fun _ => 0))), (q3, .inl (cI, 6, .inl (fun _ => 0)))] H := hP
  have hD : va_D A0 [(h0, .inr (3, [.null, .ref q1, .ref q2, .ref q3, .null, .null, .null, .null, .null, .int 0, .null, .null, .null, .null, .null, .null])), (q1, .inl (cI, 6, .inl (fun _ => 0))), (q2, .inl (cI, 6, .inl (fun _ => 0))), (q3, .inl (cI, 6, .inl (fun _ => 0)))] := hD
  refine lv_aload_n hx hb dX3_init_28 rfl (lv_at hl 0 rfl) ?_
  refine lv_bipush (v := 6) hx hb dX3_init_29 (by decide) ?_
  refine nw_i hx hb (hts (.arrayClass .int) (by decide +kernel)) hK hP hD hS hA 0 rfl 6 (by decide) (by decide) (by decide) (Nat.le_of_ble_eq_true rfl) (Nat.le_of_ble_eq_true rfl) dX3_init_31 (fun q4 H hP hD hS => ?_)
  have hP : va_P D vwCl [(h0, .inr (3, [.null, .ref q1, .ref q2, .ref q3, .null, .null, .null, .null, .null, .int 0, .null, .null, .null, .null, .null, .null])), (q1, .inl (cI, 6, .inl (fun _ => 0))), (q2, .inl (cI, 6, .inl (fun _ => 0))), (q3, .inl (cI, 6, .inl (fun _ => 0))), (q4, .inl (cI, 6, .inl (fun _ => 0)))] H := hP
  have hD : va_D A0 [(h0, .inr (3, [.null, .ref q1, .ref q2, .ref q3, .null, .null, .null, .null, .null, .int 0, .null, .null, .null, .null, .null, .null])), (q1, .inl (cI, 6, .inl (fun _ => 0))), (q2, .inl (cI, 6, .inl (fun _ => 0))), (q3, .inl (cI, 6, .inl (fun _ => 0))), (q4, .inl (cI, 6, .inl (fun _ => 0)))] := hD
  refine W.widen (k := 4) (n := 24) (Nat.le_refl _) (Nat.le_refl _) ?_
  refine va_putF (D := D) (ci := 3) (v := .ref q4) (ty := .array .int) (C := RX3) (T := TX3) (N := 16) hx hb hts iX3 tyX3 tyX3_ok nmX3 hown hK hP hD hS 0 rfl rfl 4 (by decide) k21 (fun _ h9 => h9) rfl hin rfl (by decide +kernel) rfl rfl (Nat.le_of_ble_eq_true rfl) dX3_init_33 (fun H locs hP hD hS => ?_)
  have hP : va_P D vwCl [(h0, .inr (3, [.null, .ref q1, .ref q2, .ref q3, .ref q4, .null, .null, .null, .null, .int 0, .null, .null, .null, .null, .null, .null])), (q1, .inl (cI, 6, .inl (fun _ => 0))), (q2, .inl (cI, 6, .inl (fun _ => 0))), (q3, .inl (cI, 6, .inl (fun _ => 0))), (q4, .inl (cI, 6, .inl (fun _ => 0)))] H := hP
  have hD : va_D A0 [(h0, .inr (3, [.null, .ref q1, .ref q2, .ref q3, .ref q4, .null, .null, .null, .null, .int 0, .null, .null, .null, .null, .null, .null])), (q1, .inl (cI, 6, .inl (fun _ => 0))), (q2, .inl (cI, 6, .inl (fun _ => 0))), (q3, .inl (cI, 6, .inl (fun _ => 0))), (q4, .inl (cI, 6, .inl (fun _ => 0)))] := hD
  refine lv_aload_n hx hb dX3_init_36 rfl (lv_at hl 0 rfl) ?_
  refine lv_bipush (v := 30) hx hb dX3_init_37 (by decide) ?_
  refine nw_i hx hb (hts (.arrayClass .int) (by decide +kernel)) hK hP hD hS hA 0 rfl 30 (by decide) (by decide) (by decide) (Nat.le_of_ble_eq_true rfl) (Nat.le_of_ble_eq_true rfl) dX3_init_39 (fun q5 H hP hD hS => ?_)
  have hP : va_P D vwCl [(h0, .inr (3, [.null, .ref q1, .ref q2, .ref q3, .ref q4, .null, .null, .null, .null, .int 0, .null, .null, .null, .null, .null, .null])), (q1, .inl (cI, 6, .inl (fun _ => 0))), (q2, .inl (cI, 6, .inl (fun _ => 0))), (q3, .inl (cI, 6, .inl (fun _ => 0))), (q4, .inl (cI, 6, .inl (fun _ => 0))), (q5, .inl (cI, 30, .inl (fun _ => 0)))] H := hP
  have hD : va_D A0 [(h0, .inr (3, [.null, .ref q1, .ref q2, .ref q3, .ref q4, .null, .null, .null, .null, .int 0, .null, .null, .null, .null, .null, .null])), (q1, .inl (cI, 6, .inl (fun _ => 0))), (q2, .inl (cI, 6, .inl (fun _ => 0))), (q3, .inl (cI, 6, .inl (fun _ => 0))), (q4, .inl (cI, 6, .inl (fun _ => 0))), (q5, .inl (cI, 30, .inl (fun _ => 0)))] := hD
  refine W.widen (k := 5) (n := 54) (Nat.le_refl _) (Nat.le_refl _) ?_
  refine va_putF (D := D) (ci := 3) (v := .ref q5) (ty := .array .int) (C := RX3) (T := TX3) (N := 16) hx hb hts iX3 tyX3 tyX3_ok nmX3 hown hK hP hD hS 0 rfl rfl 5 (by decide) k24 (fun _ h9 => h9) rfl hin rfl (by decide +kernel) rfl rfl (Nat.le_of_ble_eq_true rfl) dX3_init_41 (fun H locs hP hD hS => ?_)
  have hP : va_P D vwCl [(h0, .inr (3, [.null, .ref q1, .ref q2, .ref q3, .ref q4, .ref q5, .null, .null, .null, .int 0, .null, .null, .null, .null, .null, .null])), (q1, .inl (cI, 6, .inl (fun _ => 0))), (q2, .inl (cI, 6, .inl (fun _ => 0))), (q3, .inl (cI, 6, .inl (fun _ => 0))), (q4, .inl (cI, 6, .inl (fun _ => 0))), (q5, .inl (cI, 30, .inl (fun _ => 0)))] H := hP
  have hD : va_D A0 [(h0, .inr (3, [.null, .ref q1, .ref q2, .ref q3, .ref q4, .ref q5, .null, .null, .null, .int 0, .null, .null, .null, .null, .null, .null])), (q1, .inl (cI, 6, .inl (fun _ => 0))), (q2, .inl (cI, 6, .inl (fun _ => 0))), (q3, .inl (cI, 6, .inl (fun _ => 0))), (q4, .inl (cI, 6, .inl (fun _ => 0))), (q5, .inl (cI, 30, .inl (fun _ => 0)))] := hD
  refine lv_aload_n hx hb dX3_init_44 rfl (lv_at hl 0 rfl) ?_
  refine lv_bipush (v := 30) hx hb dX3_init_45 (by decide) ?_
  refine nw_z hx hb (hts (.arrayClass .boolean) (by decide +kernel)) hK hP hD hS hA 1 rfl 30 (by decide) (by decide) (by decide) (Nat.le_of_ble_eq_true rfl) (Nat.le_of_ble_eq_true rfl) dX3_init_47 (fun q6 H hP hD hS => ?_)
  have hP : va_P D vwCl [(h0, .inr (3, [.null, .ref q1, .ref q2, .ref q3, .ref q4, .ref q5, .null, .null, .null, .int 0, .null, .null, .null, .null, .null, .null])), (q1, .inl (cI, 6, .inl (fun _ => 0))), (q2, .inl (cI, 6, .inl (fun _ => 0))), (q3, .inl (cI, 6, .inl (fun _ => 0))), (q4, .inl (cI, 6, .inl (fun _ => 0))), (q5, .inl (cI, 30, .inl (fun _ => 0))), (q6, .inl (cZ, 30, .inl (fun _ => 0)))] H := hP
  have hD : va_D A0 [(h0, .inr (3, [.null, .ref q1, .ref q2, .ref q3, .ref q4, .ref q5, .null, .null, .null, .int 0, .null, .null, .null, .null, .null, .null])), (q1, .inl (cI, 6, .inl (fun _ => 0))), (q2, .inl (cI, 6, .inl (fun _ => 0))), (q3, .inl (cI, 6, .inl (fun _ => 0))), (q4, .inl (cI, 6, .inl (fun _ => 0))), (q5, .inl (cI, 30, .inl (fun _ => 0))), (q6, .inl (cZ, 30, .inl (fun _ => 0)))] := hD
  refine W.widen (k := 6) (n := 84) (Nat.le_refl _) (Nat.le_refl _) ?_
  refine va_putF (D := D) (ci := 3) (v := .ref q6) (ty := .array .boolean) (C := RX3) (T := TX3) (N := 16) hx hb hts iX3 tyX3 tyX3_ok nmX3 hown hK hP hD hS 0 rfl rfl 6 (by decide) k27 (fun _ h9 => h9) rfl hin rfl (by decide +kernel) rfl rfl (Nat.le_of_ble_eq_true rfl) dX3_init_49 (fun H locs hP hD hS => ?_)
  have hP : va_P D vwCl [(h0, .inr (3, [.null, .ref q1, .ref q2, .ref q3, .ref q4, .ref q5, .ref q6, .null, .null, .int 0, .null, .null, .null, .null, .null, .null])), (q1, .inl (cI, 6, .inl (fun _ => 0))), (q2, .inl (cI, 6, .inl (fun _ => 0))), (q3, .inl (cI, 6, .inl (fun _ => 0))), (q4, .inl (cI, 6, .inl (fun _ => 0))), (q5, .inl (cI, 30, .inl (fun _ => 0))), (q6, .inl (cZ, 30, .inl (fun _ => 0)))] H := hP
  have hD : va_D A0 [(h0, .inr (3, [.null, .ref q1, .ref q2, .ref q3, .ref q4, .ref q5, .ref q6, .null, .null, .int 0, .null, .null, .null, .null, .null, .null])), (q1, .inl (cI, 6, .inl (fun _ => 0))), (q2, .inl (cI, 6, .inl (fun _ => 0))), (q3, .inl (cI, 6, .inl (fun _ => 0))), (q4, .inl (cI, 6, .inl (fun _ => 0))), (q5, .inl (cI, 30, .inl (fun _ => 0))), (q6, .inl (cZ, 30, .inl (fun _ => 0)))] := hD
  refine lv_aload_n hx hb dX3_init_52 rfl (lv_at hl 0 rfl) ?_
  refine lv_bipush (v := 30) hx hb dX3_init_53 (by decide) ?_
  refine nw_i hx hb (hts (.arrayClass .int) (by decide +kernel)) hK hP hD hS hA 0 rfl 30 (by decide) (by decide) (by decide) (Nat.le_of_ble_eq_true rfl) (Nat.le_of_ble_eq_true rfl) dX3_init_55 (fun q7 H hP hD hS => ?_)
  have hP : va_P D vwCl [(h0, .inr (3, [.null, .ref q1, .ref q2, .ref q3, .ref q4, .ref q5, .ref q6, .null, .null, .int 0, .null, .null, .null, .null, .null, .null])), (q1, .inl (cI, 6, .inl (fun _ => 0))), (q2, .inl (cI, 6, .inl (fun _ => 0))), (q3, .inl (cI, 6, .inl (fun _ => 0))), (q4, .inl (cI, 6, .inl (fun _ => 0))), (q5, .inl (cI, 30, .inl (fun _ => 0))), (q6, .inl (cZ, 30, .inl (fun _ => 0))), (q7, .inl (cI, 30, .inl (fun _ => 0)))] H := hP
  have hD : va_D A0 [(h0, .inr (3, [.null, .ref q1, .ref q2, .ref q3, .ref q4, .ref q5, .ref q6, .null, .null, .int 0, .null, .null, .null, .null, .null, .null])), (q1, .inl (cI, 6, .inl (fun _ => 0))), (q2, .inl (cI, 6, .inl (fun _ => 0))), (q3, .inl (cI, 6, .inl (fun _ => 0))), (q4, .inl (cI, 6, .inl (fun _ => 0))), (q5, .inl (cI, 30, .inl (fun _ => 0))), (q6, .inl (cZ, 30, .inl (fun _ => 0))), (q7, .inl (cI, 30, .inl (fun _ => 0)))] := hD
  refine W.widen (k := 7) (n := 114) (Nat.le_refl _) (Nat.le_refl _) ?_
  refine va_putF (D := D) (ci := 3) (v := .ref q7) (ty := .array .int) (C := RX3) (T := TX3) (N := 16) hx hb hts iX3 tyX3 tyX3_ok nmX3 hown hK hP hD hS 0 rfl rfl 7 (by decide) k31 (fun _ h9 => h9) rfl hin rfl (by decide +kernel) rfl rfl (Nat.le_of_ble_eq_true rfl) dX3_init_57 (fun H locs hP hD hS => ?_)
  have hP : va_P D vwCl [(h0, .inr (3, [.null, .ref q1, .ref q2, .ref q3, .ref q4, .ref q5, .ref q6, .ref q7, .null, .int 0, .null, .null, .null, .null, .null, .null])), (q1, .inl (cI, 6, .inl (fun _ => 0))), (q2, .inl (cI, 6, .inl (fun _ => 0))), (q3, .inl (cI, 6, .inl (fun _ => 0))), (q4, .inl (cI, 6, .inl (fun _ => 0))), (q5, .inl (cI, 30, .inl (fun _ => 0))), (q6, .inl (cZ, 30, .inl (fun _ => 0))), (q7, .inl (cI, 30, .inl (fun _ => 0)))] H := hP
  have hD : va_D A0 [(h0, .inr (3, [.null, .ref q1, .ref q2, .ref q3, .ref q4, .ref q5, .ref q6, .ref q7, .null, .int 0, .null, .null, .null, .null, .null, .null])), (q1, .inl (cI, 6, .inl (fun _ => 0))), (q2, .inl (cI, 6, .inl (fun _ => 0))), (q3, .inl (cI, 6, .inl (fun _ => 0))), (q4, .inl (cI, 6, .inl (fun _ => 0))), (q5, .inl (cI, 30, .inl (fun _ => 0))), (q6, .inl (cZ, 30, .inl (fun _ => 0))), (q7, .inl (cI, 30, .inl (fun _ => 0)))] := hD
  refine lv_aload_n hx hb dX3_init_60 rfl (lv_at hl 0 rfl) ?_
  refine lv_bipush (v := 30) hx hb dX3_init_61 (by decide) ?_
  refine nw_i hx hb (hts (.arrayClass .int) (by decide +kernel)) hK hP hD hS hA 0 rfl 30 (by decide) (by decide) (by decide) (Nat.le_of_ble_eq_true rfl) (Nat.le_of_ble_eq_true rfl) dX3_init_63 (fun q8 H hP hD hS => ?_)
  have hP : va_P D vwCl [(h0, .inr (3, [.null, .ref q1, .ref q2, .ref q3, .ref q4, .ref q5, .ref q6, .ref q7, .null, .int 0, .null, .null, .null, .null, .null, .null])), (q1, .inl (cI, 6, .inl (fun _ => 0))), (q2, .inl (cI, 6, .inl (fun _ => 0))), (q3, .inl (cI, 6, .inl (fun _ => 0))), (q4, .inl (cI, 6, .inl (fun _ => 0))), (q5, .inl (cI, 30, .inl (fun _ => 0))), (q6, .inl (cZ, 30, .inl (fun _ => 0))), (q7, .inl (cI, 30, .inl (fun _ => 0))), (q8, .inl (cI, 30, .inl (fun _ => 0)))] H := hP
  have hD : va_D A0 [(h0, .inr (3, [.null, .ref q1, .ref q2, .ref q3, .ref q4, .ref q5, .ref q6, .ref q7, .null, .int 0, .null, .null, .null, .null, .null, .null])), (q1, .inl (cI, 6, .inl (fun _ => 0))), (q2, .inl (cI, 6, .inl (fun _ => 0))), (q3, .inl (cI, 6, .inl (fun _ => 0))), (q4, .inl (cI, 6, .inl (fun _ => 0))), (q5, .inl (cI, 30, .inl (fun _ => 0))), (q6, .inl (cZ, 30, .inl (fun _ => 0))), (q7, .inl (cI, 30, .inl (fun _ => 0))), (q8, .inl (cI, 30, .inl (fun _ => 0)))] := hD
  refine W.widen (k := 8) (n := 144) (Nat.le_refl _) (Nat.le_refl _) ?_
  refine va_putF (D := D) (ci := 3) (v := .ref q8) (ty := .array .int) (C := RX3) (T := TX3) (N := 16) hx hb hts iX3 tyX3 tyX3_ok nmX3 hown hK hP hD hS 0 rfl rfl 8 (by decide) k34 (fun _ h9 => h9) rfl hin rfl (by decide +kernel) rfl rfl (Nat.le_of_ble_eq_true rfl) dX3_init_65 (fun H locs hP hD hS => ?_)
  have hP : va_P D vwCl [(h0, .inr (3, [.null, .ref q1, .ref q2, .ref q3, .ref q4, .ref q5, .ref q6, .ref q7, .ref q8, .int 0, .null, .null, .null, .null, .null, .null])), (q1, .inl (cI, 6, .inl (fun _ => 0))), (q2, .inl (cI, 6, .inl (fun _ => 0))), (q3, .inl (cI, 6, .inl (fun _ => 0))), (q4, .inl (cI, 6, .inl (fun _ => 0))), (q5, .inl (cI, 30, .inl (fun _ => 0))), (q6, .inl (cZ, 30, .inl (fun _ => 0))), (q7, .inl (cI, 30, .inl (fun _ => 0))), (q8, .inl (cI, 30, .inl (fun _ => 0)))] H := hP
  have hD : va_D A0 [(h0, .inr (3, [.null, .ref q1, .ref q2, .ref q3, .ref q4, .ref q5, .ref q6, .ref q7, .ref q8, .int 0, .null, .null, .null, .null, .null, .null])), (q1, .inl (cI, 6, .inl (fun _ => 0))), (q2, .inl (cI, 6, .inl (fun _ => 0))), (q3, .inl (cI, 6, .inl (fun _ => 0))), (q4, .inl (cI, 6, .inl (fun _ => 0))), (q5, .inl (cI, 30, .inl (fun _ => 0))), (q6, .inl (cZ, 30, .inl (fun _ => 0))), (q7, .inl (cI, 30, .inl (fun _ => 0))), (q8, .inl (cI, 30, .inl (fun _ => 0)))] := hD
  refine lv_aload_n hx hb dX3_init_68 rfl (lv_at hl 0 rfl) ?_
  refine lv_bipush (v := 30) hx hb dX3_init_69 (by decide) ?_
  refine nw_i hx hb (hts (.arrayClass .int) (by decide +kernel)) hK hP hD hS hA 0 rfl 30 (by decide) (by decide) (by decide) (Nat.le_of_ble_eq_true rfl) (Nat.le_of_ble_eq_true rfl) dX3_init_71 (fun q9 H hP hD hS => ?_)
  have hP : va_P D vwCl [(h0, .inr (3, [.null, .ref q1, .ref q2, .ref q3, .ref q4, .ref q5, .ref q6, .ref q7, .ref q8, .int 0, .null, .null, .null, .null, .null, .null])), (q1, .inl (cI, 6, .inl (fun _ => 0))), (q2, .inl (cI, 6, .inl (fun _ => 0))), (q3, .inl (cI, 6, .inl (fun _ => 0))), (q4, .inl (cI, 6, .inl (fun _ => 0))), (q5, .inl (cI, 30, .inl (fun _ => 0))), (q6, .inl (cZ, 30, .inl (fun _ => 0))), (q7, .inl (cI, 30, .inl (fun _ => 0))), (q8, .inl (cI, 30, .inl (fun _ => 0))), (q9, .inl (cI, 30, .inl (fun _ => 0)))] H := hP
  have hD : va_D A0 [(h0, .inr (3, [.null, .ref q1, .ref q2, .ref q3, .ref q4, .ref q5, .ref q6, .ref q7, .ref q8, .int 0, .null, .null, .null, .null, .null, .null])), (q1, .inl (cI, 6, .inl (fun _ => 0))), (q2, .inl (cI, 6, .inl (fun _ => 0))), (q3, .inl (cI, 6, .inl (fun _ => 0))), (q4, .inl (cI, 6, .inl (fun _ => 0))), (q5, .inl (cI, 30, .inl (fun _ => 0))), (q6, .inl (cZ, 30, .inl (fun _ => 0))), (q7, .inl (cI, 30, .inl (fun _ => 0))), (q8, .inl (cI, 30, .inl (fun _ => 0))), (q9, .inl (cI, 30, .inl (fun _ => 0)))] := hD
  refine W.widen (k := 9) (n := 174) (Nat.le_refl _) (Nat.le_refl _) ?_
  refine va_putF (D := D) (ci := 3) (v := .ref q9) (ty := .array .int) (C := RX3) (T := TX3) (N := 16) hx hb hts iX3 tyX3 tyX3_ok nmX3 hown hK hP hD hS 0 rfl rfl 10 (by decide) k37 (fun _ h9 => h9) rfl hin rfl (by decide +kernel) rfl rfl (Nat.le_of_ble_eq_true rfl) dX3_init_73 (fun H locs hP hD hS => ?_)
  have hP : va_P D vwCl [(h0, .inr (3, [.null, .ref q1, .ref q2, .ref q3, .ref q4, .ref q5, .ref q6, .ref q7, .ref q8, .int 0, .ref q9, .null, .null, .null, .null, .null])), (q1, .inl (cI, 6, .inl (fun _ => 0))), (q2, .inl (cI, 6, .inl (fun _ => 0))), (q3, .inl (cI, 6, .inl (fun _ => 0))), (q4, .inl (cI, 6, .inl (fun _ => 0))), (q5, .inl (cI, 30, .inl (fun _ => 0))), (q6, .inl (cZ, 30, .inl (fun _ => 0))), (q7, .inl (cI, 30, .inl (fun _ => 0))), (q8, .inl (cI, 30, .inl (fun _ => 0))), (q9, .inl (cI, 30, .inl (fun _ => 0)))] H := hP
  have hD : va_D A0 [(h0, .inr (3, [.null, .ref q1, .ref q2, .ref q3, .ref q4, .ref q5, .ref q6, .ref q7, .ref q8, .int 0, .ref q9, .null, .null, .null, .null, .null])), (q1, .inl (cI, 6, .inl (fun _ => 0))), (q2, .inl (cI, 6, .inl (fun _ => 0))), (q3, .inl (cI, 6, .inl (fun _ => 0))), (q4, .inl (cI, 6, .inl (fun _ => 0))), (q5, .inl (cI, 30, .inl (fun _ => 0))), (q6, .inl (cZ, 30, .inl (fun _ => 0))), (q7, .inl (cI, 30, .inl (fun _ => 0))), (q8, .inl (cI, 30, .inl (fun _ => 0))), (q9, .inl (cI, 30, .inl (fun _ => 0)))] := hD
  refine lv_aload_n hx hb dX3_init_76 rfl (lv_at hl 0 rfl) ?_
  refine lv_bipush (v := 30) hx hb dX3_init_77 (by decide) ?_
  refine nw_i hx hb (hts (.arrayClass .int) (by decide +kernel)) hK hP hD hS hA 0 rfl 30 (by decide) (by decide) (by decide) (Nat.le_of_ble_eq_true rfl) (Nat.le_of_ble_eq_true rfl) dX3_init_79 (fun q10 H hP hD hS => ?_)
  have hP : va_P D vwCl [(h0, .inr (3, [.null, .ref q1, .ref q2, .ref q3, .ref q4, .ref q5, .ref q6, .ref q7, .ref q8, .int 0, .ref q9, .null, .null, .null, .null, .null])), (q1, .inl (cI, 6, .inl (fun _ => 0))), (q2, .inl (cI, 6, .inl (fun _ => 0))), (q3, .inl (cI, 6, .inl (fun _ => 0))), (q4, .inl (cI, 6, .inl (fun _ => 0))), (q5, .inl (cI, 30, .inl (fun _ => 0))), (q6, .inl (cZ, 30, .inl (fun _ => 0))), (q7, .inl (cI, 30, .inl (fun _ => 0))), (q8, .inl (cI, 30, .inl (fun _ => 0))), (q9, .inl (cI, 30, .inl (fun _ => 0))), (q10, .inl (cI, 30, .inl (fun _ => 0)))] H := hP
  have hD : va_D A0 [(h0, .inr (3, [.null, .ref q1, .ref q2, .ref q3, .ref q4, .ref q5, .ref q6, .ref q7, .ref q8, .int 0, .ref q9, .null, .null, .null, .null, .null])), (q1, .inl (cI, 6, .inl (fun _ => 0))), (q2, .inl (cI, 6, .inl (fun _ => 0))), (q3, .inl (cI, 6, .inl (fun _ => 0))), (q4, .inl (cI, 6, .inl (fun _ => 0))), (q5, .inl (cI, 30, .inl (fun _ => 0))), (q6, .inl (cZ, 30, .inl (fun _ => 0))), (q7, .inl (cI, 30, .inl (fun _ => 0))), (q8, .inl (cI, 30, .inl (fun _ => 0))), (q9, .inl (cI, 30, .inl (fun _ => 0))), (q10, .inl (cI, 30, .inl (fun _ => 0)))] := hD
  refine W.widen (k := 10) (n := 204) (Nat.le_refl _) (Nat.le_refl _) ?_
  refine va_putF (D := D) (ci := 3) (v := .ref q10) (ty := .array .int) (C := RX3) (T := TX3) (N := 16) hx hb hts iX3 tyX3 tyX3_ok nmX3 hown hK hP hD hS 0 rfl rfl 11 (by decide) k40 (fun _ h9 => h9) rfl hin rfl (by decide +kernel) rfl rfl (Nat.le_of_ble_eq_true rfl) dX3_init_81 (fun H locs hP hD hS => ?_)
  have hP : va_P D vwCl [(h0, .inr (3, [.null, .ref q1, .ref q2, .ref q3, .ref q4, .ref q5, .ref q6, .ref q7, .ref q8, .int 0, .ref q9, .ref q10, .null, .null, .null, .null])), (q1, .inl (cI, 6, .inl (fun _ => 0))), (q2, .inl (cI, 6, .inl (fun _ => 0))), (q3, .inl (cI, 6, .inl (fun _ => 0))), (q4, .inl (cI, 6, .inl (fun _ => 0))), (q5, .inl (cI, 30, .inl (fun _ => 0))), (q6, .inl (cZ, 30, .inl (fun _ => 0))), (q7, .inl (cI, 30, .inl (fun _ => 0))), (q8, .inl (cI, 30, .inl (fun _ => 0))), (q9, .inl (cI, 30, .inl (fun _ => 0))), (q10, .inl (cI, 30, .inl (fun _ => 0)))] H := hP
  have hD : va_D A0 [(h0, .inr (3, [.null, .ref q1, .ref q2, .ref q3, .ref q4, .ref q5, .ref q6, .ref q7, .ref q8, .int 0, .ref q9, .ref q10, .null, .null, .null, .null])), (q1, .inl (cI, 6, .inl (fun _ => 0))), (q2, .inl (cI, 6, .inl (fun _ => 0))), (q3, .inl (cI, 6, .inl (fun _ => 0))), (q4, .inl (cI, 6, .inl (fun _ => 0))), (q5, .inl (cI, 30, .inl (fun _ => 0))), (q6, .inl (cZ, 30, .inl (fun _ => 0))), (q7, .inl (cI, 30, .inl (fun _ => 0))), (q8, .inl (cI, 30, .inl (fun _ => 0))), (q9, .inl (cI, 30, .inl (fun _ => 0))), (q10, .inl (cI, 30, .inl (fun _ => 0)))] := hD
  refine lv_aload_n hx hb dX3_init_84 rfl (lv_at hl 0 rfl) ?_
  refine lv_bipush (v := 30) hx hb dX3_init_85 (by decide) ?_
  refine nw_i hx hb (hts (.arrayClass .int) (by decide +kernel)) hK hP hD hS hA 0 rfl 30 (by decide) (by decide) (by decide) (Nat.le_of_ble_eq_true rfl) (Nat.le_of_ble_eq_true rfl) dX3_init_87 (fun q11 H hP hD hS => ?_)
  have hP : va_P D vwCl [(h0, .inr (3, [.null, .ref q1, .ref q2, .ref q3, .ref q4, .ref q5, .ref q6, .ref q7, .ref q8, .int 0, .ref q9, .ref q10, .null, .null, .null, .null])), (q1, .inl (cI, 6, .inl (fun _ => 0))), (q2, .inl (cI, 6, .inl (fun _ => 0))), (q3, .inl (cI, 6, .inl (fun _ => 0))), (q4, .inl (cI, 6, .inl (fun _ => 0))), (q5, .inl (cI, 30, .inl (fun _ => 0))), (q6, .inl (cZ, 30, .inl (fun _ => 0))), (q7, .inl (cI, 30, .inl (fun _ => 0))), (q8, .inl (cI, 30, .inl (fun _ => 0))), (q9, .inl (cI, 30, .inl (fun _ => 0))), (q10, .inl (cI, 30, .inl (fun _ => 0))), (q11, .inl (cI, 30, .inl (fun _ => 0)))] H := hP
  have hD : va_D A0 [(h0, .inr (3, [.null, .ref q1, .ref q2, .ref q3, .ref q4, .ref q5, .ref q6, .ref q7, .ref q8, .int 0, .ref q9, .ref q10, .null, .null, .null, .null])), (q1, .inl (cI, 6, .inl (fun _ => 0))), (q2, .inl (cI, 6, .inl (fun _ => 0))), (q3, .inl (cI, 6, .inl (fun _ => 0))), (q4, .inl (cI, 6, .inl (fun _ => 0))), (q5, .inl (cI, 30, .inl (fun _ => 0))), (q6, .inl (cZ, 30, .inl (fun _ => 0))), (q7, .inl (cI, 30, .inl (fun _ => 0))), (q8, .inl (cI, 30, .inl (fun _ => 0))), (q9, .inl (cI, 30, .inl (fun _ => 0))), (q10, .inl (cI, 30, .inl (fun _ => 0))), (q11, .inl (cI, 30, .inl (fun _ => 0)))] := hD
  refine W.widen (k := 11) (n := 234) (Nat.le_refl _) (Nat.le_refl _) ?_
  refine va_putF (D := D) (ci := 3) (v := .ref q11) (ty := .array .int) (C := RX3) (T := TX3) (N := 16) hx hb hts iX3 tyX3 tyX3_ok nmX3 hown hK hP hD hS 0 rfl rfl 12 (by decide) k43 (fun _ h9 => h9) rfl hin rfl (by decide +kernel) rfl rfl (Nat.le_of_ble_eq_true rfl) dX3_init_89 (fun H locs hP hD hS => ?_)
  have hP : va_P D vwCl [(h0, .inr (3, [.null, .ref q1, .ref q2, .ref q3, .ref q4, .ref q5, .ref q6, .ref q7, .ref q8, .int 0, .ref q9, .ref q10, .ref q11, .null, .null, .null])), (q1, .inl (cI, 6, .inl (fun _ => 0))), (q2, .inl (cI, 6, .inl (fun _ => 0))), (q3, .inl (cI, 6, .inl (fun _ => 0))), (q4, .inl (cI, 6, .inl (fun _ => 0))), (q5, .inl (cI, 30, .inl (fun _ => 0))), (q6, .inl (cZ, 30, .inl (fun _ => 0))), (q7, .inl (cI, 30, .inl (fun _ => 0))), (q8, .inl (cI, 30, .inl (fun _ => 0))), (q9, .inl (cI, 30, .inl (fun _ => 0))), (q10, .inl (cI, 30, .inl (fun _ => 0))), (q11, .inl (cI, 30, .inl (fun _ => 0)))] H := hP
  have hD : va_D A0 [(h0, .inr (3, [.null, .ref q1, .ref q2, .ref q3, .ref q4, .ref q5, .ref q6, .ref q7, .ref q8, .int 0, .ref q9, .ref q10, .ref q11, .null, .null, .null])), (q1, .inl (cI, 6, .inl (fun _ => 0))), (q2, .inl (cI, 6, .inl (fun _ => 0))), (q3, .inl (cI, 6, .inl (fun _ => 0))), (q4, .inl (cI, 6, .inl (fun _ => 0))), (q5, .inl (cI, 30, .inl (fun _ => 0))), (q6, .inl (cZ, 30, .inl (fun _ => 0))), (q7, .inl (cI, 30, .inl (fun _ => 0))), (q8, .inl (cI, 30, .inl (fun _ => 0))), (q9, .inl (cI, 30, .inl (fun _ => 0))), (q10, .inl (cI, 30, .inl (fun _ => 0))), (q11, .inl (cI, 30, .inl (fun _ => 0)))] := hD
  refine lv_aload_n hx hb dX3_init_92 rfl (lv_at hl 0 rfl) ?_
  refine lv_bipush (v := 30) hx hb dX3_init_93 (by decide) ?_
  refine nw_z hx hb (hts (.arrayClass .boolean) (by decide +kernel)) hK hP hD hS hA 1 rfl 30 (by decide) (by decide) (by decide) (Nat.le_of_ble_eq_true rfl) (Nat.le_of_ble_eq_true rfl) dX3_init_95 (fun q12 H hP hD hS => ?_)
  have hP : va_P D vwCl [(h0, .inr (3, [.null, .ref q1, .ref q2, .ref q3, .ref q4, .ref q5, .ref q6, .ref q7, .ref q8, .int 0, .ref q9, .ref q10, .ref q11, .null, .null, .null])), (q1, .inl (cI, 6, .inl (fun _ => 0))), (q2, .inl (cI, 6, .inl (fun _ => 0))), (q3, .inl (cI, 6, .inl (fun _ => 0))), (q4, .inl (cI, 6, .inl (fun _ => 0))), (q5, .inl (cI, 30, .inl (fun _ => 0))), (q6, .inl (cZ, 30, .inl (fun _ => 0))), (q7, .inl (cI, 30, .inl (fun _ => 0))), (q8, .inl (cI, 30, .inl (fun _ => 0))), (q9, .inl (cI, 30, .inl (fun _ => 0))), (q10, .inl (cI, 30, .inl (fun _ => 0))), (q11, .inl (cI, 30, .inl (fun _ => 0))), (q12, .inl (cZ, 30, .inl (fun _ => 0)))] H := hP
  have hD : va_D A0 [(h0, .inr (3, [.null, .ref q1, .ref q2, .ref q3, .ref q4, .ref q5, .ref q6, .ref q7, .ref q8, .int 0, .ref q9, .ref q10, .ref q11, .null, .null, .null])), (q1, .inl (cI, 6, .inl (fun _ => 0))), (q2, .inl (cI, 6, .inl (fun _ => 0))), (q3, .inl (cI, 6, .inl (fun _ => 0))), (q4, .inl (cI, 6, .inl (fun _ => 0))), (q5, .inl (cI, 30, .inl (fun _ => 0))), (q6, .inl (cZ, 30, .inl (fun _ => 0))), (q7, .inl (cI, 30, .inl (fun _ => 0))), (q8, .inl (cI, 30, .inl (fun _ => 0))), (q9, .inl (cI, 30, .inl (fun _ => 0))), (q10, .inl (cI, 30, .inl (fun _ => 0))), (q11, .inl (cI, 30, .inl (fun _ => 0))), (q12, .inl (cZ, 30, .inl (fun _ => 0)))] := hD
  refine W.widen (k := 12) (n := 264) (Nat.le_refl _) (Nat.le_refl _) ?_
  refine va_putF (D := D) (ci := 3) (v := .ref q12) (ty := .array .boolean) (C := RX3) (T := TX3) (N := 16) hx hb hts iX3 tyX3 tyX3_ok nmX3 hown hK hP hD hS 0 rfl rfl 13 (by decide) k46 (fun _ h9 => h9) rfl hin rfl (by decide +kernel) rfl rfl (Nat.le_of_ble_eq_true rfl) dX3_init_97 (fun H locs hP hD hS => ?_)
  have hP : va_P D vwCl [(h0, .inr (3, [.null, .ref q1, .ref q2, .ref q3, .ref q4, .ref q5, .ref q6, .ref q7, .ref q8, .int 0, .ref q9, .ref q10, .ref q11, .ref q12, .null, .null])), (q1, .inl (cI, 6, .inl (fun _ => 0))), (q2, .inl (cI, 6, .inl (fun _ => 0))), (q3, .inl (cI, 6, .inl (fun _ => 0))), (q4, .inl (cI, 6, .inl (fun _ => 0))), (q5, .inl (cI, 30, .inl (fun _ => 0))), (q6, .inl (cZ, 30, .inl (fun _ => 0))), (q7, .inl (cI, 30, .inl (fun _ => 0))), (q8, .inl (cI, 30, .inl (fun _ => 0))), (q9, .inl (cI, 30, .inl (fun _ => 0))), (q10, .inl (cI, 30, .inl (fun _ => 0))), (q11, .inl (cI, 30, .inl (fun _ => 0))), (q12, .inl (cZ, 30, .inl (fun _ => 0)))] H := hP
  have hD : va_D A0 [(h0, .inr (3, [.null, .ref q1, .ref q2, .ref q3, .ref q4, .ref q5, .ref q6, .ref q7, .ref q8, .int 0, .ref q9, .ref q10, .ref q11, .ref q12, .null, .null])), (q1, .inl (cI, 6, .inl (fun _ => 0))), (q2, .inl (cI, 6, .inl (fun _ => 0))), (q3, .inl (cI, 6, .inl (fun _ => 0))), (q4, .inl (cI, 6, .inl (fun _ => 0))), (q5, .inl (cI, 30, .inl (fun _ => 0))), (q6, .inl (cZ, 30, .inl (fun _ => 0))), (q7, .inl (cI, 30, .inl (fun _ => 0))), (q8, .inl (cI, 30, .inl (fun _ => 0))), (q9, .inl (cI, 30, .inl (fun _ => 0))), (q10, .inl (cI, 30, .inl (fun _ => 0))), (q11, .inl (cI, 30, .inl (fun _ => 0))), (q12, .inl (cZ, 30, .inl (fun _ => 0)))] := hD
  refine lv_aload_n hx hb dX3_init_100 rfl (lv_at hl 0 rfl) ?_
  refine lv_bipush (v := 6) hx hb dX3_init_101 (by decide) ?_
  refine nw_z hx hb (hts (.arrayClass .boolean) (by decide +kernel)) hK hP hD hS hA 1 rfl 6 (by decide) (by decide) (by decide) (Nat.le_of_ble_eq_true rfl) (Nat.le_of_ble_eq_true rfl) dX3_init_103 (fun q13 H hP hD hS => ?_)
  have hP : va_P D vwCl [(h0, .inr (3, [.null, .ref q1, .ref q2, .ref q3, .ref q4, .ref q5, .ref q6, .ref q7, .ref q8, .int 0, .ref q9, .ref q10, .ref q11, .ref q12, .null, .null])), (q1, .inl (cI, 6, .inl (fun _ => 0))), (q2, .inl (cI, 6, .inl (fun _ => 0))), (q3, .inl (cI, 6, .inl (fun _ => 0))), (q4, .inl (cI, 6, .inl (fun _ => 0))), (q5, .inl (cI, 30, .inl (fun _ => 0))), (q6, .inl (cZ, 30, .inl (fun _ => 0))), (q7, .inl (cI, 30, .inl (fun _ => 0))), (q8, .inl (cI, 30, .inl (fun _ => 0))), (q9, .inl (cI, 30, .inl (fun _ => 0))), (q10, .inl (cI, 30, .inl (fun _ => 0))), (q11, .inl (cI, 30, .inl (fun _ => 0))), (q12, .inl (cZ, 30, .inl (fun _ => 0))), (q13, .inl (cZ, 6, .inl (fun _ => 0)))] H := hP
  have hD : va_D A0 [(h0, .inr (3, [.null, .ref q1, .ref q2, .ref q3, .ref q4, .ref q5, .ref q6, .ref q7, .ref q8, .int 0, .ref q9, .ref q10, .ref q11, .ref q12, .null, .null])), (q1, .inl (cI, 6, .inl (fun _ => 0))), (q2, .inl (cI, 6, .inl (fun _ => 0))), (q3, .inl (cI, 6, .inl (fun _ => 0))), (q4, .inl (cI, 6, .inl (fun _ => 0))), (q5, .inl (cI, 30, .inl (fun _ => 0))), (q6, .inl (cZ, 30, .inl (fun _ => 0))), (q7, .inl (cI, 30, .inl (fun _ => 0))), (q8, .inl (cI, 30, .inl (fun _ => 0))), (q9, .inl (cI, 30, .inl (fun _ => 0))), (q10, .inl (cI, 30, .inl (fun _ => 0))), (q11, .inl (cI, 30, .inl (fun _ => 0))), (q12, .inl (cZ, 30, .inl (fun _ => 0))), (q13, .inl (cZ, 6, .inl (fun _ => 0)))] := hD
  refine W.widen (k := 13) (n := 270) (Nat.le_refl _) (Nat.le_refl _) ?_
  refine va_putF (D := D) (ci := 3) (v := .ref q13) (ty := .array .boolean) (C := RX3) (T := TX3) (N := 16) hx hb hts iX3 tyX3 tyX3_ok nmX3 hown hK hP hD hS 0 rfl rfl 14 (by decide) k49 (fun _ h9 => h9) rfl hin rfl (by decide +kernel) rfl rfl (Nat.le_of_ble_eq_true rfl) dX3_init_105 (fun H locs hP hD hS => ?_)
  have hP : va_P D vwCl [(h0, .inr (3, [.null, .ref q1, .ref q2, .ref q3, .ref q4, .ref q5, .ref q6, .ref q7, .ref q8, .int 0, .ref q9, .ref q10, .ref q11, .ref q12, .ref q13, .null])), (q1, .inl (cI, 6, .inl (fun _ => 0))), (q2, .inl (cI, 6, .inl (fun _ => 0))), (q3, .inl (cI, 6, .inl (fun _ => 0))), (q4, .inl (cI, 6, .inl (fun _ => 0))), (q5, .inl (cI, 30, .inl (fun _ => 0))), (q6, .inl (cZ, 30, .inl (fun _ => 0))), (q7, .inl (cI, 30, .inl (fun _ => 0))), (q8, .inl (cI, 30, .inl (fun _ => 0))), (q9, .inl (cI, 30, .inl (fun _ => 0))), (q10, .inl (cI, 30, .inl (fun _ => 0))), (q11, .inl (cI, 30, .inl (fun _ => 0))), (q12, .inl (cZ, 30, .inl (fun _ => 0))), (q13, .inl (cZ, 6, .inl (fun _ => 0)))] H := hP
  have hD : va_D A0 [(h0, .inr (3, [.null, .ref q1, .ref q2, .ref q3, .ref q4, .ref q5, .ref q6, .ref q7, .ref q8, .int 0, .ref q9, .ref q10, .ref q11, .ref q12, .ref q13, .null])), (q1, .inl (cI, 6, .inl (fun _ => 0))), (q2, .inl (cI, 6, .inl (fun _ => 0))), (q3, .inl (cI, 6, .inl (fun _ => 0))), (q4, .inl (cI, 6, .inl (fun _ => 0))), (q5, .inl (cI, 30, .inl (fun _ => 0))), (q6, .inl (cZ, 30, .inl (fun _ => 0))), (q7, .inl (cI, 30, .inl (fun _ => 0))), (q8, .inl (cI, 30, .inl (fun _ => 0))), (q9, .inl (cI, 30, .inl (fun _ => 0))), (q10, .inl (cI, 30, .inl (fun _ => 0))), (q11, .inl (cI, 30, .inl (fun _ => 0))), (q12, .inl (cZ, 30, .inl (fun _ => 0))), (q13, .inl (cZ, 6, .inl (fun _ => 0)))] := hD
  refine lv_aload_n hx hb dX3_init_108 rfl (lv_at hl 0 rfl) ?_
  refine lv_bipush (v := 6) hx hb dX3_init_109 (by decide) ?_
  refine nw_i hx hb (hts (.arrayClass .int) (by decide +kernel)) hK hP hD hS hA 0 rfl 6 (by decide) (by decide) (by decide) (Nat.le_of_ble_eq_true rfl) (Nat.le_of_ble_eq_true rfl) dX3_init_111 (fun q14 H hP hD hS => ?_)
  have hP : va_P D vwCl [(h0, .inr (3, [.null, .ref q1, .ref q2, .ref q3, .ref q4, .ref q5, .ref q6, .ref q7, .ref q8, .int 0, .ref q9, .ref q10, .ref q11, .ref q12, .ref q13, .null])), (q1, .inl (cI, 6, .inl (fun _ => 0))), (q2, .inl (cI, 6, .inl (fun _ => 0))), (q3, .inl (cI, 6, .inl (fun _ => 0))), (q4, .inl (cI, 6, .inl (fun _ => 0))), (q5, .inl (cI, 30, .inl (fun _ => 0))), (q6, .inl (cZ, 30, .inl (fun _ => 0))), (q7, .inl (cI, 30, .inl (fun _ => 0))), (q8, .inl (cI, 30, .inl (fun _ => 0))), (q9, .inl (cI, 30, .inl (fun _ => 0))), (q10, .inl (cI, 30, .inl (fun _ => 0))), (q11, .inl (cI, 30, .inl (fun _ => 0))), (q12, .inl (cZ, 30, .inl (fun _ => 0))), (q13, .inl (cZ, 6, .inl (fun _ => 0))), (q14, .inl (cI, 6, .inl (fun _ => 0)))] H := hP
  have hD : va_D A0 [(h0, .inr (3, [.null, .ref q1, .ref q2, .ref q3, .ref q4, .ref q5, .ref q6, .ref q7, .ref q8, .int 0, .ref q9, .ref q10, .ref q11, .ref q12, .ref q13, .null])), (q1, .inl (cI, 6, .inl (fun _ => 0))), (q2, .inl (cI, 6, .inl (fun _ => 0))), (q3, .inl (cI, 6, .inl (fun _ => 0))), (q4, .inl (cI, 6, .inl (fun _ => 0))), (q5, .inl (cI, 30, .inl (fun _ => 0))), (q6, .inl (cZ, 30, .inl (fun _ => 0))), (q7, .inl (cI, 30, .inl (fun _ => 0))), (q8, .inl (cI, 30, .inl (fun _ => 0))), (q9, .inl (cI, 30, .inl (fun _ => 0))), (q10, .inl (cI, 30, .inl (fun _ => 0))), (q11, .inl (cI, 30, .inl (fun _ => 0))), (q12, .inl (cZ, 30, .inl (fun _ => 0))), (q13, .inl (cZ, 6, .inl (fun _ => 0))), (q14, .inl (cI, 6, .inl (fun _ => 0)))] := hD
  refine W.widen (k := 14) (n := 276) (Nat.le_refl _) (Nat.le_refl _) ?_
  refine va_putF (D := D) (ci := 3) (v := .ref q14) (ty := .array .int) (C := RX3) (T := TX3) (N := 16) hx hb hts iX3 tyX3 tyX3_ok nmX3 hown hK hP hD hS 0 rfl rfl 15 (by decide) k52 (fun _ h9 => h9) rfl hin rfl (by decide +kernel) rfl rfl (Nat.le_of_ble_eq_true rfl) dX3_init_113 (fun H locs hP hD hS => ?_)
  have hP : va_P D vwCl [(h0, .inr (3, [.null, .ref q1, .ref q2, .ref q3, .ref q4, .ref q5, .ref q6, .ref q7, .ref q8, .int 0, .ref q9, .ref q10, .ref q11, .ref q12, .ref q13, .ref q14])), (q1, .inl (cI, 6, .inl (fun _ => 0))), (q2, .inl (cI, 6, .inl (fun _ => 0))), (q3, .inl (cI, 6, .inl (fun _ => 0))), (q4, .inl (cI, 6, .inl (fun _ => 0))), (q5, .inl (cI, 30, .inl (fun _ => 0))), (q6, .inl (cZ, 30, .inl (fun _ => 0))), (q7, .inl (cI, 30, .inl (fun _ => 0))), (q8, .inl (cI, 30, .inl (fun _ => 0))), (q9, .inl (cI, 30, .inl (fun _ => 0))), (q10, .inl (cI, 30, .inl (fun _ => 0))), (q11, .inl (cI, 30, .inl (fun _ => 0))), (q12, .inl (cZ, 30, .inl (fun _ => 0))), (q13, .inl (cZ, 6, .inl (fun _ => 0))), (q14, .inl (cI, 6, .inl (fun _ => 0)))] H := hP
  have hD : va_D A0 [(h0, .inr (3, [.null, .ref q1, .ref q2, .ref q3, .ref q4, .ref q5, .ref q6, .ref q7, .ref q8, .int 0, .ref q9, .ref q10, .ref q11, .ref q12, .ref q13, .ref q14])), (q1, .inl (cI, 6, .inl (fun _ => 0))), (q2, .inl (cI, 6, .inl (fun _ => 0))), (q3, .inl (cI, 6, .inl (fun _ => 0))), (q4, .inl (cI, 6, .inl (fun _ => 0))), (q5, .inl (cI, 30, .inl (fun _ => 0))), (q6, .inl (cZ, 30, .inl (fun _ => 0))), (q7, .inl (cI, 30, .inl (fun _ => 0))), (q8, .inl (cI, 30, .inl (fun _ => 0))), (q9, .inl (cI, 30, .inl (fun _ => 0))), (q10, .inl (cI, 30, .inl (fun _ => 0))), (q11, .inl (cI, 30, .inl (fun _ => 0))), (q12, .inl (cZ, 30, .inl (fun _ => 0))), (q13, .inl (cZ, 6, .inl (fun _ => 0))), (q14, .inl (cI, 6, .inl (fun _ => 0)))] := hD
  refine lv_aload_n hx hb dX3_init_116 rfl (lv_at hl 0 rfl) ?_
  refine lv_aload_n hx hb dX3_init_117 rfl (lv_at hl 1 rfl) ?_
  refine va_putF (D := D) (ci := 3) (v := .ref aw) (ty := .object "SwitchFloor$Wiring") (C := RX3) (T := TX3) (N := 16) hx hb hts iX3 tyX3 tyX3_ok nmX3 hown hK hP hD hS 0 rfl rfl 0 (by decide) k55 (fun _ h9 => h9) rfl hin rfl (by decide +kernel) rfl rfl (Nat.le_of_ble_eq_true rfl) dX3_init_118 (fun H locs hP hD hS => ?_)
  have hP : va_P D vwCl [(h0, .inr (3, [.ref aw, .ref q1, .ref q2, .ref q3, .ref q4, .ref q5, .ref q6, .ref q7, .ref q8, .int 0, .ref q9, .ref q10, .ref q11, .ref q12, .ref q13, .ref q14])), (q1, .inl (cI, 6, .inl (fun _ => 0))), (q2, .inl (cI, 6, .inl (fun _ => 0))), (q3, .inl (cI, 6, .inl (fun _ => 0))), (q4, .inl (cI, 6, .inl (fun _ => 0))), (q5, .inl (cI, 30, .inl (fun _ => 0))), (q6, .inl (cZ, 30, .inl (fun _ => 0))), (q7, .inl (cI, 30, .inl (fun _ => 0))), (q8, .inl (cI, 30, .inl (fun _ => 0))), (q9, .inl (cI, 30, .inl (fun _ => 0))), (q10, .inl (cI, 30, .inl (fun _ => 0))), (q11, .inl (cI, 30, .inl (fun _ => 0))), (q12, .inl (cZ, 30, .inl (fun _ => 0))), (q13, .inl (cZ, 6, .inl (fun _ => 0))), (q14, .inl (cI, 6, .inl (fun _ => 0)))] H := hP
  have hD : va_D A0 [(h0, .inr (3, [.ref aw, .ref q1, .ref q2, .ref q3, .ref q4, .ref q5, .ref q6, .ref q7, .ref q8, .int 0, .ref q9, .ref q10, .ref q11, .ref q12, .ref q13, .ref q14])), (q1, .inl (cI, 6, .inl (fun _ => 0))), (q2, .inl (cI, 6, .inl (fun _ => 0))), (q3, .inl (cI, 6, .inl (fun _ => 0))), (q4, .inl (cI, 6, .inl (fun _ => 0))), (q5, .inl (cI, 30, .inl (fun _ => 0))), (q6, .inl (cZ, 30, .inl (fun _ => 0))), (q7, .inl (cI, 30, .inl (fun _ => 0))), (q8, .inl (cI, 30, .inl (fun _ => 0))), (q9, .inl (cI, 30, .inl (fun _ => 0))), (q10, .inl (cI, 30, .inl (fun _ => 0))), (q11, .inl (cI, 30, .inl (fun _ => 0))), (q12, .inl (cZ, 30, .inl (fun _ => 0))), (q13, .inl (cZ, 6, .inl (fun _ => 0))), (q14, .inl (cI, 6, .inl (fun _ => 0)))] := hD
  obtain ⟨A, eA⟩ : ∃ A : Nat → Nat, A = fun j => List.getD [h0, q1, q2, q3, q4, q5, q6, q7, q8, q9, q10, q11, q12, q13, q14, aw] j 0 := ⟨_, rfl⟩
  have e0 : A 0 = h0 := by rw [eA]; rfl
  have e15 : A 15 = aw := by rw [eA]; rfl
  have hP : va_P D vwCl (wX3t cI cZ A st0) H := by rw [eA]; exact hP
  have hD : va_D A0 (wX3t cI cZ A st0) := by rw [eA]; exact hD
  have hl : lv_has ls 3 [(0, .ref (A 0))] := by rw [e0]; exact lv_sub hl [0] rfl
  have B123 : ∀ (ct : St) (x2 : Int32), fX3_init_L123 ct x2 = some res → Bk p l e ({ frames := 1, cells := 14, slots := 276, locals := 20 }) s m args below meth c Q A0 D 3 14 276 (wX3t cI cZ A ct) [(0, .ref (A 0)), (2, .int x2)] 123 [] := by
    intro ct x2 hf
    refine loop_ind (step := (fun k a => fX3_init_S123 k (a.1) (a.2))) (fun a => Bk p l e ({ frames := 1, cells := 14, slots := 276, locals := 20 }) s m args below meth c Q A0 D 3 14 276 (wX3t cI cZ A (a.1)) [(0, .ref (A 0)), (2, .int (a.2))] 123 []) ?_ _ _ hf
    clear hf
    intro k123 hk123 a hf
    obtain ⟨ct_, x2_⟩ := a
    clear ct x2
    obtain ⟨ct, e_⟩ : ∃ z, z = ct_ := ⟨_, rfl⟩
    subst e_
    obtain ⟨x2, e_⟩ : ∃ z, z = x2_ := ⟨_, rfl⟩
    subst e_
    have hf : fX3_init_S123 k123 ct x2 = some res := hf
    show Bk p l e ({ frames := 1, cells := 14, slots := 276, locals := 20 }) s m args below meth c Q A0 D 3 14 276 (wX3t cI cZ A ct) [(0, .ref (A 0)), (2, .int x2)] 123 []
    unfold fX3_init_S123 at hf
    intro H locs hP hD hS ls hl
    refine lv_iload_n hx hb dX3_init_123 rfl (lv_at hl 1 rfl) ?_
    refine lv_bipush (v := 6) hx hb dX3_init_124 (by decide) ?_
    refine lv_icmp_ge (tgt := 149) hx hb dX3_init_126 (by decide) (fun c126 => ?_) (fun c126 => ?_)
    · have hf := if_t c126 hf
      exact hR _ ls H locs A _ e0 (((congrArg (fun q => (wX3t cI cZ A q)) (Option.some.inj hf))).trans (by unfold wX3t; rw [e15]; rfl)) dX3_init_149 hP hD hS
    · have hf := if_f c126 hf
      refine lv_aload_n hx hb dX3_init_129 rfl (lv_at hl 0 rfl) ?_
      refine ld_f S iX3 hK hP 0 1 (.ref (A 1)) (gX3t_0 _ _ _ _) rfl (by decide) k9 rfl rfl dX3_init_130 ?_
      refine lv_iload_n hx hb dX3_init_133 rfl (lv_at hl 1 rfl) ?_
      refine lv_iload_n hx hb dX3_init_134 rfl (lv_at hl 1 rfl) ?_
      obtain ⟨c135, hf⟩ := ck_t hf
      refine st_i hx hb hK hP hD hS 1 0 (sX3t_1 _ _ _ _ _ _) (gX3t_1 _ _ _ _) rfl c135 dX3_init_135 (fun H locs hP hD hS => ?_)
      refine lv_aload_n hx hb dX3_init_136 rfl (lv_at hl 0 rfl) ?_
      refine ld_f S iX3 hK hP 0 4 (.ref (A 4)) (gX3t_0 _ _ _ _) rfl (by decide) k21 rfl rfl dX3_init_137 ?_
      refine lv_iload_n hx hb dX3_init_140 rfl (lv_at hl 1 rfl) ?_
      refine lv_iconst (v := (-1)) hx hb dX3_init_141 (by decide) ?_
      obtain ⟨c142, hf⟩ := ck_t hf
      refine st_i hx hb hK hP hD hS 4 0 (sX3t_4 _ _ _ _ _ _) (gX3t_4 _ _ _ _) rfl c142 dX3_init_142 (fun H locs hP hD hS => ?_)
      refine lv_iinc (v := x2 + 1) (lv' := [(2, .int (x2 + 1)), (0, .ref (A 0))]) hx hb dX3_init_143 hl (k := 1) rfl rfl (by decide) rfl (fun ls hl => ?_)
      refine lv_goto (tgt := 123) hx hb dX3_init_146 (by decide) ?_
      exact hk123 _ hf H locs hP hD hS ls (lv_sub hl [1, 0] rfl)
  unfold fX3_init at hf
  refine lv_iconst (v := 0) hx hb dX3_init_121 (by decide) ?_
  refine lv_istore_n (lv' := [(2, .int 0), (0, .ref (A 0))]) hx hb dX3_init_122 rfl hl (by decide) rfl (fun ls hl => ?_)
  exact B123 _ _ hf H locs hP hD hS ls (lv_sub hl [1, 0] rfl)
set_option maxHeartbeats 8000000 in
set_option maxRecDepth 100000 in
theorem nX4_init (l : Launch) (D : va_G) (cI cZ : ClassId) (h0 : Nat) (sz : Nat) (res : St) (hf : fX4_init = some res) : Met l yX4_init wsX4_init ({ frames := 1, cells := 6, slots := 136, locals := 20 }) (mP D (tysX cI cZ) [.ref h0] [(h0, .inr (4, [.null, .null, .null, .null, .null, .null, .int 0, .int 0]))] sz) (mQn D (fun A => A 0 = h0) (fun A => wX4 cI cZ A res) [(h0, .inr (4, [.null, .null, .null, .null, .null, .null, .int 0, .int 0]))] sz) 6 136 (va_A [(h0, .inr (4, [.null, .null, .null, .null, .null, .null, .int 0, .int 0]))] sz) := by
  refine mkN (cc := cX4_init) (maxL := 2) (own := RX4) (by decide +kernel) rfl rfl (Nat.le_of_ble_eq_true rfl) rfl ?_
  intro p e s m args below meth c A0 Q S hK hG hA hin hR
  obtain ⟨hx, hb, hml, hown, hts⟩ := id S
  have k9 := hts (.fieldLink RX4 9 "SwitchFloor$Wiring" "peer" "[I") (by decide +kernel)
  have iX4 : ∀ w ∈ wsX40, w ∈ wsX4_init := by decide +kernel
  have k15 := hts (.fieldLink RX4 15 "SwitchFloor$Wiring" "cost" "[I") (by decide +kernel)
  have k18 := hts (.fieldLink RX4 18 "SwitchFloor$Wiring" "house" "[I") (by decide +kernel)
  have k21 := hts (.fieldLink RX4 21 "SwitchFloor$Wiring" "guard" "[I") (by decide +kernel)
  have k24 := hts (.fieldLink RX4 24 "SwitchFloor$Wiring" "spotOfHouse" "[I") (by decide +kernel)
  have k27 := hts (.fieldLink RX4 27 "SwitchFloor$Wiring" "rank" "[I") (by decide +kernel)
  intro H locs hP hD hS ls hl
  have hl : lv_has ls 2 [(0, .ref h0)] := hl
  refine lv_aload_n hx hb dX4_init_0 rfl (lv_at hl 0 rfl) ?_
  refine W.objInit hx hb hown (hts (.methodLink RX4 3 objectInit) (by decide +kernel)) (hts (.instanceMethod objectInit) (by decide +kernel)) (hts (.code objectInit ⟨#[0xb1]⟩ 1 none) (by decide +kernel)) rfl (by rw [hml]; exact hl.1) rfl dX4_init_1 (Nat.le_of_ble_eq_true rfl) (Nat.le_of_ble_eq_true rfl) ?_
  refine W.eq (g2 := F0 m 4 ls []) rfl ?_
  refine lv_aload_n hx hb dX4_init_4 rfl (lv_at hl 0 rfl) ?_
  refine lv_bipush (v := 30) hx hb dX4_init_5 (by decide) ?_
  refine nw_i hx hb (hts (.arrayClass .int) (by decide +kernel)) hK hP hD hS hA 0 rfl 30 (by decide) (by decide) (by decide) (Nat.le_of_ble_eq_true rfl) (Nat.le_of_ble_eq_true rfl) dX4_init_7 (fun q1 H hP hD hS => ?_)
  have hP : va_P D vwCl [(h0, .inr (4, [.null, .null, .null, .null, .null, .null, .int 0, .int 0])), (q1, .inl (cI, 30, .inl (fun _ => 0)))] H := hP
  have hD : va_D A0 [(h0, .inr (4, [.null, .null, .null, .null, .null, .null, .int 0, .int 0])), (q1, .inl (cI, 30, .inl (fun _ => 0)))] := hD
  refine W.widen (k := 1) (n := 30) (Nat.le_refl _) (Nat.le_refl _) ?_
  refine va_putF (D := D) (ci := 4) (v := .ref q1) (ty := .array .int) (C := RX4) (T := TX4) (N := 8) hx hb hts iX4 tyX4 tyX4_ok nmX4 hown hK hP hD hS 0 rfl rfl 0 (by decide) k9 (fun _ h9 => h9) rfl hin rfl (by decide +kernel) rfl rfl (Nat.le_of_ble_eq_true rfl) dX4_init_9 (fun H locs hP hD hS => ?_)
  have hP : va_P D vwCl [(h0, .inr (4, [.ref q1, .null, .null, .null, .null, .null, .int 0, .int 0])), (q1, .inl (cI, 30, .inl (fun _ => 0)))] H := hP
  have hD : va_D A0 [(h0, .inr (4, [.ref q1, .null, .null, .null, .null, .null, .int 0, .int 0])), (q1, .inl (cI, 30, .inl (fun _ => 0)))] := hD
  refine lv_aload_n hx hb dX4_init_12 rfl (lv_at hl 0 rfl) ?_
  refine lv_bipush (v := 30) hx hb dX4_init_13 (by decide) ?_
  refine nw_i hx hb (hts (.arrayClass .int) (by decide +kernel)) hK hP hD hS hA 0 rfl 30 (by decide) (by decide) (by decide) (Nat.le_of_ble_eq_true rfl) (Nat.le_of_ble_eq_true rfl) dX4_init_15 (fun q2 H hP hD hS => ?_)
  have hP : va_P D vwCl [(h0, .inr (4, [.ref q1, .null, .null, .null, .null, .null, .int 0, .int 0])), (q1, .inl (cI, 30, .inl (fun _ => 0))), (q2, .inl (cI, 30, .inl (fun _ => 0)))] H := hP
  have hD : va_D A0 [(h0, .inr (4, [.ref q1, .null, .null, .null, .null, .null, .int 0, .int 0])), (q1, .inl (cI, 30, .inl (fun _ => 0))), (q2, .inl (cI, 30, .inl (fun _ => 0)))] := hD
  refine W.widen (k := 2) (n := 60) (Nat.le_refl _) (Nat.le_refl _) ?_
  refine va_putF (D := D) (ci := 4) (v := .ref q2) (ty := .array .int) (C := RX4) (T := TX4) (N := 8) hx hb hts iX4 tyX4 tyX4_ok nmX4 hown hK hP hD hS 0 rfl rfl 1 (by decide) k15 (fun _ h9 => h9) rfl hin rfl (by decide +kernel) rfl rfl (Nat.le_of_ble_eq_true rfl) dX4_init_17 (fun H locs hP hD hS => ?_)
  have hP : va_P D vwCl [(h0, .inr (4, [.ref q1, .ref q2, .null, .null, .null, .null, .int 0, .int 0])), (q1, .inl (cI, 30, .inl (fun _ => 0))), (q2, .inl (cI, 30, .inl (fun _ => 0)))] H := hP
  have hD : va_D A0 [(h0, .inr (4, [.ref q1, .ref q2, .null, .null, .null, .null, .int 0, .int 0])), (q1, .inl (cI, 30, .inl (fun _ => 0))), (q2, .inl (cI, 30, .inl (fun _ => 0)))] := hD
  refine lv_aload_n hx hb dX4_init_20 rfl (lv_at hl 0 rfl) ?_
  refine lv_bipush (v := 30) hx hb dX4_init_21 (by decide) ?_
  refine nw_i hx hb (hts (.arrayClass .int) (by decide +kernel)) hK hP hD hS hA 0 rfl 30 (by decide) (by decide) (by decide) (Nat.le_of_ble_eq_true rfl) (Nat.le_of_ble_eq_true rfl) dX4_init_23 (fun q3 H hP hD hS => ?_)
  have hP : va_P D vwCl [(h0, .inr (4, [.ref q1, .ref q2, .null, .null, .null, .null, .int 0, .int 0])), (q1, .inl (cI, 30, .inl (fun _ => 0))), (q2, .inl (cI, 30, .inl (fun _ => 0))), (q3, .inl (cI, 30, .inl (fun _ => 0)))] H := hP
  have hD : va_D A0 [(h0, .inr (4, [.ref q1, .ref q2, .null, .null, .null, .null, .int 0, .int 0])), (q1, .inl (cI, 30, .inl (fun _ => 0))), (q2, .inl (cI, 30, .inl (fun _ => 0))), (q3, .inl (cI, 30, .inl (fun _ => 0)))] := hD
  refine W.widen (k := 3) (n := 90) (Nat.le_refl _) (Nat.le_refl _) ?_
  refine va_putF (D := D) (ci := 4) (v := .ref q3) (ty := .array .int) (C := RX4) (T := TX4) (N := 8) hx hb hts iX4 tyX4 tyX4_ok nmX4 hown hK hP hD hS 0 rfl rfl 2 (by decide) k18 (fun _ h9 => h9) rfl hin rfl (by decide +kernel) rfl rfl (Nat.le_of_ble_eq_true rfl) dX4_init_25 (fun H locs hP hD hS => ?_)
  have hP : va_P D vwCl [(h0, .inr (4, [.ref q1, .ref q2, .ref q3, .null, .null, .null, .int 0, .int 0])), (q1, .inl (cI, 30, .inl (fun _ => 0))), (q2, .inl (cI, 30, .inl (fun _ => 0))), (q3, .inl (cI, 30, .inl (fun _ => 0)))] H := hP
  have hD : va_D A0 [(h0, .inr (4, [.ref q1, .ref q2, .ref q3, .null, .null, .null, .int 0, .int 0])), (q1, .inl (cI, 30, .inl (fun _ => 0))), (q2, .inl (cI, 30, .inl (fun _ => 0))), (q3, .inl (cI, 30, .inl (fun _ => 0)))] := hD
  refine lv_aload_n hx hb dX4_init_28 rfl (lv_at hl 0 rfl) ?_
  refine lv_bipush (v := 30) hx hb dX4_init_29 (by decide) ?_
  refine nw_i hx hb (hts (.arrayClass .int) (by decide +kernel)) hK hP hD hS hA 0 rfl 30 (by decide) (by decide) (by decide) (Nat.le_of_ble_eq_true rfl) (Nat.le_of_ble_eq_true rfl) dX4_init_31 (fun q4 H hP hD hS => ?_)
  have hP : va_P D vwCl [(h0, .inr (4, [.ref q1, .ref q2, .ref q3, .null, .null, .null, .int 0, .int 0])), (q1, .inl (cI, 30, .inl (fun _ => 0))), (q2, .inl (cI, 30, .inl (fun _ => 0))), (q3, .inl (cI, 30, .inl (fun _ => 0))), (q4, .inl (cI, 30, .inl (fun _ => 0)))] H := hP
  have hD : va_D A0 [(h0, .inr (4, [.ref q1, .ref q2, .ref q3, .null, .null, .null, .int 0, .int 0])), (q1, .inl (cI, 30, .inl (fun _ => 0))), (q2, .inl (cI, 30, .inl (fun _ => 0))), (q3, .inl (cI, 30, .inl (fun _ => 0))), (q4, .inl (cI, 30, .inl (fun _ => 0)))] := hD
  refine W.widen (k := 4) (n := 120) (Nat.le_refl _) (Nat.le_refl _) ?_
  refine va_putF (D := D) (ci := 4) (v := .ref q4) (ty := .array .int) (C := RX4) (T := TX4) (N := 8) hx hb hts iX4 tyX4 tyX4_ok nmX4 hown hK hP hD hS 0 rfl rfl 3 (by decide) k21 (fun _ h9 => h9) rfl hin rfl (by decide +kernel) rfl rfl (Nat.le_of_ble_eq_true rfl) dX4_init_33 (fun H locs hP hD hS => ?_)
  have hP : va_P D vwCl [(h0, .inr (4, [.ref q1, .ref q2, .ref q3, .ref q4, .null, .null, .int 0, .int 0])), (q1, .inl (cI, 30, .inl (fun _ => 0))), (q2, .inl (cI, 30, .inl (fun _ => 0))), (q3, .inl (cI, 30, .inl (fun _ => 0))), (q4, .inl (cI, 30, .inl (fun _ => 0)))] H := hP
  have hD : va_D A0 [(h0, .inr (4, [.ref q1, .ref q2, .ref q3, .ref q4, .null, .null, .int 0, .int 0])), (q1, .inl (cI, 30, .inl (fun _ => 0))), (q2, .inl (cI, 30, .inl (fun _ => 0))), (q3, .inl (cI, 30, .inl (fun _ => 0))), (q4, .inl (cI, 30, .inl (fun _ => 0)))] := hD
  refine lv_aload_n hx hb dX4_init_36 rfl (lv_at hl 0 rfl) ?_
  refine lv_bipush (v := 10) hx hb dX4_init_37 (by decide) ?_
  refine nw_i hx hb (hts (.arrayClass .int) (by decide +kernel)) hK hP hD hS hA 0 rfl 10 (by decide) (by decide) (by decide) (Nat.le_of_ble_eq_true rfl) (Nat.le_of_ble_eq_true rfl) dX4_init_39 (fun q5 H hP hD hS => ?_)
  have hP : va_P D vwCl [(h0, .inr (4, [.ref q1, .ref q2, .ref q3, .ref q4, .null, .null, .int 0, .int 0])), (q1, .inl (cI, 30, .inl (fun _ => 0))), (q2, .inl (cI, 30, .inl (fun _ => 0))), (q3, .inl (cI, 30, .inl (fun _ => 0))), (q4, .inl (cI, 30, .inl (fun _ => 0))), (q5, .inl (cI, 10, .inl (fun _ => 0)))] H := hP
  have hD : va_D A0 [(h0, .inr (4, [.ref q1, .ref q2, .ref q3, .ref q4, .null, .null, .int 0, .int 0])), (q1, .inl (cI, 30, .inl (fun _ => 0))), (q2, .inl (cI, 30, .inl (fun _ => 0))), (q3, .inl (cI, 30, .inl (fun _ => 0))), (q4, .inl (cI, 30, .inl (fun _ => 0))), (q5, .inl (cI, 10, .inl (fun _ => 0)))] := hD
  refine W.widen (k := 5) (n := 130) (Nat.le_refl _) (Nat.le_refl _) ?_
  refine va_putF (D := D) (ci := 4) (v := .ref q5) (ty := .array .int) (C := RX4) (T := TX4) (N := 8) hx hb hts iX4 tyX4 tyX4_ok nmX4 hown hK hP hD hS 0 rfl rfl 4 (by decide) k24 (fun _ h9 => h9) rfl hin rfl (by decide +kernel) rfl rfl (Nat.le_of_ble_eq_true rfl) dX4_init_41 (fun H locs hP hD hS => ?_)
  have hP : va_P D vwCl [(h0, .inr (4, [.ref q1, .ref q2, .ref q3, .ref q4, .ref q5, .null, .int 0, .int 0])), (q1, .inl (cI, 30, .inl (fun _ => 0))), (q2, .inl (cI, 30, .inl (fun _ => 0))), (q3, .inl (cI, 30, .inl (fun _ => 0))), (q4, .inl (cI, 30, .inl (fun _ => 0))), (q5, .inl (cI, 10, .inl (fun _ => 0)))] H := hP
  have hD : va_D A0 [(h0, .inr (4, [.ref q1, .ref q2, .ref q3, .ref q4, .ref q5, .null, .int 0, .int 0])), (q1, .inl (cI, 30, .inl (fun _ => 0))), (q2, .inl (cI, 30, .inl (fun _ => 0))), (q3, .inl (cI, 30, .inl (fun _ => 0))), (q4, .inl (cI, 30, .inl (fun _ => 0))), (q5, .inl (cI, 10, .inl (fun _ => 0)))] := hD
  refine lv_aload_n hx hb dX4_init_44 rfl (lv_at hl 0 rfl) ?_
  refine lv_bipush (v := 6) hx hb dX4_init_45 (by decide) ?_
  refine nw_i hx hb (hts (.arrayClass .int) (by decide +kernel)) hK hP hD hS hA 0 rfl 6 (by decide) (by decide) (by decide) (Nat.le_of_ble_eq_true rfl) (Nat.le_of_ble_eq_true rfl) dX4_init_47 (fun q6 H hP hD hS => ?_)
  have hP : va_P D vwCl [(h0, .inr (4, [.ref q1, .ref q2, .ref q3, .ref q4, .ref q5, .null, .int 0, .int 0])), (q1, .inl (cI, 30, .inl (fun _ => 0))), (q2, .inl (cI, 30, .inl (fun _ => 0))), (q3, .inl (cI, 30, .inl (fun _ => 0))), (q4, .inl (cI, 30, .inl (fun _ => 0))), (q5, .inl (cI, 10, .inl (fun _ => 0))), (q6, .inl (cI, 6, .inl (fun _ => 0)))] H := hP
  have hD : va_D A0 [(h0, .inr (4, [.ref q1, .ref q2, .ref q3, .ref q4, .ref q5, .null, .int 0, .int 0])), (q1, .inl (cI, 30, .inl (fun _ => 0))), (q2, .inl (cI, 30, .inl (fun _ => 0))), (q3, .inl (cI, 30, .inl (fun _ => 0))), (q4, .inl (cI, 30, .inl (fun _ => 0))), (q5, .inl (cI, 10, .inl (fun _ => 0))), (q6, .inl (cI, 6, .inl (fun _ => 0)))] := hD
  refine W.widen (k := 6) (n := 136) (Nat.le_refl _) (Nat.le_refl _) ?_
  refine va_putF (D := D) (ci := 4) (v := .ref q6) (ty := .array .int) (C := RX4) (T := TX4) (N := 8) hx hb hts iX4 tyX4 tyX4_ok nmX4 hown hK hP hD hS 0 rfl rfl 5 (by decide) k27 (fun _ h9 => h9) rfl hin rfl (by decide +kernel) rfl rfl (Nat.le_of_ble_eq_true rfl) dX4_init_49 (fun H locs hP hD hS => ?_)
  have hP : va_P D vwCl [(h0, .inr (4, [.ref q1, .ref q2, .ref q3, .ref q4, .ref q5, .ref q6, .int 0, .int 0])), (q1, .inl (cI, 30, .inl (fun _ => 0))), (q2, .inl (cI, 30, .inl (fun _ => 0))), (q3, .inl (cI, 30, .inl (fun _ => 0))), (q4, .inl (cI, 30, .inl (fun _ => 0))), (q5, .inl (cI, 10, .inl (fun _ => 0))), (q6, .inl (cI, 6, .inl (fun _ => 0)))] H := hP
  have hD : va_D A0 [(h0, .inr (4, [.ref q1, .ref q2, .ref q3, .ref q4, .ref q5, .ref q6, .int 0, .int 0])), (q1, .inl (cI, 30, .inl (fun _ => 0))), (q2, .inl (cI, 30, .inl (fun _ => 0))), (q3, .inl (cI, 30, .inl (fun _ => 0))), (q4, .inl (cI, 30, .inl (fun _ => 0))), (q5, .inl (cI, 10, .inl (fun _ => 0))), (q6, .inl (cI, 6, .inl (fun _ => 0)))] := hD
  obtain ⟨A, eA⟩ : ∃ A : Nat → Nat, A = fun j => List.getD [h0, q1, q2, q3, q4, q5, q6] j 0 := ⟨_, rfl⟩
  have e0 : A 0 = h0 := by rw [eA]; rfl
  have hP : va_P D vwCl (wX4 cI cZ A st0) H := by rw [eA]; exact hP
  have hD : va_D A0 (wX4 cI cZ A st0) := by rw [eA]; exact hD
  have hl : lv_has ls 2 [(0, .ref (A 0))] := by rw [e0]; exact lv_sub hl [0] rfl
  have B103 : ∀ (cw : St) (x1 : Int32), fX4_init_L103 cw x1 = some res → Bk p l e ({ frames := 1, cells := 6, slots := 136, locals := 20 }) s m args below meth c Q A0 D 2 6 136 (wX4 cI cZ A cw) [(0, .ref (A 0)), (1, .int x1)] 103 [] := by
    intro cw x1 hf
    refine loop_ind (step := (fun k a => fX4_init_S103 k (a.1) (a.2))) (fun a => Bk p l e ({ frames := 1, cells := 6, slots := 136, locals := 20 }) s m args below meth c Q A0 D 2 6 136 (wX4 cI cZ A (a.1)) [(0, .ref (A 0)), (1, .int (a.2))] 103 []) ?_ _ _ hf
    clear hf
    intro k103 hk103 a hf
    obtain ⟨cw_, x1_⟩ := a
    clear cw x1
    obtain ⟨cw, e_⟩ : ∃ z, z = cw_ := ⟨_, rfl⟩
    subst e_
    obtain ⟨x1, e_⟩ : ∃ z, z = x1_ := ⟨_, rfl⟩
    subst e_
    have hf : fX4_init_S103 k103 cw x1 = some res := hf
    show Bk p l e ({ frames := 1, cells := 6, slots := 136, locals := 20 }) s m args below meth c Q A0 D 2 6 136 (wX4 cI cZ A cw) [(0, .ref (A 0)), (1, .int x1)] 103 []
    unfold fX4_init_S103 at hf
    intro H locs hP hD hS ls hl
    refine lv_iload_n hx hb dX4_init_103 rfl (lv_at hl 1 rfl) ?_
    refine lv_bipush (v := 6) hx hb dX4_init_104 (by decide) ?_
    refine lv_icmp_ge (tgt := 123) hx hb dX4_init_106 (by decide) (fun c106 => ?_) (fun c106 => ?_)
    · have hf := if_t c106 hf
      exact hR _ ls H locs A _ e0 (congrArg (fun q => (wX4 cI cZ A q)) (Option.some.inj hf)) dX4_init_123 hP hD hS
    · have hf := if_f c106 hf
      refine lv_aload_n hx hb dX4_init_109 rfl (lv_at hl 0 rfl) ?_
      refine ld_f S iX4 hK hP 0 5 (.ref (A 6)) (gX4_0 _ _ _ _) rfl (by decide) k27 rfl rfl dX4_init_110 ?_
      refine lv_iload_n hx hb dX4_init_113 rfl (lv_at hl 1 rfl) ?_
      refine lv_bipush (v := 8) hx hb dX4_init_114 (by decide) ?_
      obtain ⟨c116, hf⟩ := ck_t hf
      refine st_i hx hb hK hP hD hS 6 0 (sX4_6 _ _ _ _ _ _) (gX4_6 _ _ _ _) rfl c116 dX4_init_116 (fun H locs hP hD hS => ?_)
      refine lv_iinc (v := x1 + 1) (lv' := [(1, .int (x1 + 1)), (0, .ref (A 0))]) hx hb dX4_init_117 hl (k := 1) rfl rfl (by decide) rfl (fun ls hl => ?_)
      refine lv_goto (tgt := 103) hx hb dX4_init_120 (by decide) ?_
      exact hk103 _ hf H locs hP hD hS ls (lv_sub hl [1, 0] rfl)
  have B101 : ∀ (cw : St), fX4_init_J101 cw = some res → Bk p l e ({ frames := 1, cells := 6, slots := 136, locals := 20 }) s m args below meth c Q A0 D 2 6 136 (wX4 cI cZ A cw) [(0, .ref (A 0))] 101 [] := by
    intro cw hf
    unfold fX4_init_J101 at hf
    intro H locs hP hD hS ls hl
    refine lv_iconst (v := 0) hx hb dX4_init_101 (by decide) ?_
    refine lv_istore_n (lv' := [(1, .int 0), (0, .ref (A 0))]) hx hb dX4_init_102 rfl hl (by decide) rfl (fun ls hl => ?_)
    exact B103 _ _ hf H locs hP hD hS ls (lv_sub hl [1, 0] rfl)
  have B82 : ∀ (cw : St) (x1 : Int32), fX4_init_L82 cw x1 = some res → Bk p l e ({ frames := 1, cells := 6, slots := 136, locals := 20 }) s m args below meth c Q A0 D 2 6 136 (wX4 cI cZ A cw) [(0, .ref (A 0)), (1, .int x1)] 82 [] := by
    intro cw x1 hf
    refine loop_ind (step := (fun k a => fX4_init_S82 k (a.1) (a.2))) (fun a => Bk p l e ({ frames := 1, cells := 6, slots := 136, locals := 20 }) s m args below meth c Q A0 D 2 6 136 (wX4 cI cZ A (a.1)) [(0, .ref (A 0)), (1, .int (a.2))] 82 []) ?_ _ _ hf
    clear hf
    intro k82 hk82 a hf
    obtain ⟨cw_, x1_⟩ := a
    clear cw x1
    obtain ⟨cw, e_⟩ : ∃ z, z = cw_ := ⟨_, rfl⟩
    subst e_
    obtain ⟨x1, e_⟩ : ∃ z, z = x1_ := ⟨_, rfl⟩
    subst e_
    have hf : fX4_init_S82 k82 cw x1 = some res := hf
    show Bk p l e ({ frames := 1, cells := 6, slots := 136, locals := 20 }) s m args below meth c Q A0 D 2 6 136 (wX4 cI cZ A cw) [(0, .ref (A 0)), (1, .int x1)] 82 []
    unfold fX4_init_S82 at hf
    intro H locs hP hD hS ls hl
    refine lv_iload_n hx hb dX4_init_82 rfl (lv_at hl 1 rfl) ?_
    refine lv_bipush (v := 10) hx hb dX4_init_83 (by decide) ?_
    refine lv_icmp_ge (tgt := 101) hx hb dX4_init_85 (by decide) (fun c85 => ?_) (fun c85 => ?_)
    · have hf := if_t c85 hf
      exact B101 _ hf H locs hP hD hS ls (lv_sub hl [0] rfl)
    · have hf := if_f c85 hf
      refine lv_aload_n hx hb dX4_init_88 rfl (lv_at hl 0 rfl) ?_
      refine ld_f S iX4 hK hP 0 4 (.ref (A 5)) (gX4_0 _ _ _ _) rfl (by decide) k24 rfl rfl dX4_init_89 ?_
      refine lv_iload_n hx hb dX4_init_92 rfl (lv_at hl 1 rfl) ?_
      refine lv_iconst (v := (-1)) hx hb dX4_init_93 (by decide) ?_
      obtain ⟨c94, hf⟩ := ck_t hf
      refine st_i hx hb hK hP hD hS 5 0 (sX4_5 _ _ _ _ _ _) (gX4_5 _ _ _ _) rfl c94 dX4_init_94 (fun H locs hP hD hS => ?_)
      refine lv_iinc (v := x1 + 1) (lv' := [(1, .int (x1 + 1)), (0, .ref (A 0))]) hx hb dX4_init_95 hl (k := 1) rfl rfl (by decide) rfl (fun ls hl => ?_)
      refine lv_goto (tgt := 82) hx hb dX4_init_98 (by decide) ?_
      exact hk82 _ hf H locs hP hD hS ls (lv_sub hl [1, 0] rfl)
  have B80 : ∀ (cw : St), fX4_init_J80 cw = some res → Bk p l e ({ frames := 1, cells := 6, slots := 136, locals := 20 }) s m args below meth c Q A0 D 2 6 136 (wX4 cI cZ A cw) [(0, .ref (A 0))] 80 [] := by
    intro cw hf
    unfold fX4_init_J80 at hf
    intro H locs hP hD hS ls hl
    refine lv_iconst (v := 0) hx hb dX4_init_80 (by decide) ?_
    refine lv_istore_n (lv' := [(1, .int 0), (0, .ref (A 0))]) hx hb dX4_init_81 rfl hl (by decide) rfl (fun ls hl => ?_)
    exact B82 _ _ hf H locs hP hD hS ls (lv_sub hl [1, 0] rfl)
  have B54 : ∀ (cw : St) (x1 : Int32), fX4_init_L54 cw x1 = some res → Bk p l e ({ frames := 1, cells := 6, slots := 136, locals := 20 }) s m args below meth c Q A0 D 2 6 136 (wX4 cI cZ A cw) [(0, .ref (A 0)), (1, .int x1)] 54 [] := by
    intro cw x1 hf
    refine loop_ind (step := (fun k a => fX4_init_S54 k (a.1) (a.2))) (fun a => Bk p l e ({ frames := 1, cells := 6, slots := 136, locals := 20 }) s m args below meth c Q A0 D 2 6 136 (wX4 cI cZ A (a.1)) [(0, .ref (A 0)), (1, .int (a.2))] 54 []) ?_ _ _ hf
    clear hf
    intro k54 hk54 a hf
    obtain ⟨cw_, x1_⟩ := a
    clear cw x1
    obtain ⟨cw, e_⟩ : ∃ z, z = cw_ := ⟨_, rfl⟩
    subst e_
    obtain ⟨x1, e_⟩ : ∃ z, z = x1_ := ⟨_, rfl⟩
    subst e_
    have hf : fX4_init_S54 k54 cw x1 = some res := hf
    show Bk p l e ({ frames := 1, cells := 6, slots := 136, locals := 20 }) s m args below meth c Q A0 D 2 6 136 (wX4 cI cZ A cw) [(0, .ref (A 0)), (1, .int x1)] 54 []
    unfold fX4_init_S54 at hf
    intro H locs hP hD hS ls hl
    refine lv_iload_n hx hb dX4_init_54 rfl (lv_at hl 1 rfl) ?_
    refine lv_bipush (v := 30) hx hb dX4_init_55 (by decide) ?_
    refine lv_icmp_ge (tgt := 80) hx hb dX4_init_57 (by decide) (fun c57 => ?_) (fun c57 => ?_)
    · have hf := if_t c57 hf
      exact B80 _ hf H locs hP hD hS ls (lv_sub hl [0] rfl)
    · have hf := if_f c57 hf
      refine lv_aload_n hx hb dX4_init_60 rfl (lv_at hl 0 rfl) ?_
      refine ld_f S iX4 hK hP 0 0 (.ref (A 1)) (gX4_0 _ _ _ _) rfl (by decide) k9 rfl rfl dX4_init_61 ?_
      refine lv_iload_n hx hb dX4_init_64 rfl (lv_at hl 1 rfl) ?_
      refine lv_iconst (v := (-1)) hx hb dX4_init_65 (by decide) ?_
      obtain ⟨c66, hf⟩ := ck_t hf
      refine st_i hx hb hK hP hD hS 1 0 (sX4_1 _ _ _ _ _ _) (gX4_1 _ _ _ _) rfl c66 dX4_init_66 (fun H locs hP hD hS => ?_)
      refine lv_aload_n hx hb dX4_init_67 rfl (lv_at hl 0 rfl) ?_
      refine ld_f S iX4 hK hP 0 2 (.ref (A 3)) (gX4_0 _ _ _ _) rfl (by decide) k18 rfl rfl dX4_init_68 ?_
      refine lv_iload_n hx hb dX4_init_71 rfl (lv_at hl 1 rfl) ?_
      refine lv_iconst (v := (-1)) hx hb dX4_init_72 (by decide) ?_
      obtain ⟨c73, hf⟩ := ck_t hf
      refine st_i hx hb hK hP hD hS 3 0 (sX4_3 _ _ _ _ _ _) (gX4_3 _ _ _ _) rfl c73 dX4_init_73 (fun H locs hP hD hS => ?_)
      refine lv_iinc (v := x1 + 1) (lv' := [(1, .int (x1 + 1)), (0, .ref (A 0))]) hx hb dX4_init_74 hl (k := 1) rfl rfl (by decide) rfl (fun ls hl => ?_)
      refine lv_goto (tgt := 54) hx hb dX4_init_77 (by decide) ?_
      exact hk54 _ hf H locs hP hD hS ls (lv_sub hl [1, 0] rfl)
  unfold fX4_init at hf
  refine lv_iconst (v := 0) hx hb dX4_init_52 (by decide) ?_
  refine lv_istore_n (lv' := [(1, .int 0), (0, .ref (A 0))]) hx hb dX4_init_53 rfl hl (by decide) rfl (fun ls hl => ?_)
  exact B54 _ _ hf H locs hP hD hS ls (lv_sub hl [1, 0] rfl)
set_option maxHeartbeats 8000000 in
set_option maxRecDepth 100000 in
theorem nX5_init (l : Launch) (D : va_G) (cI cZ : ClassId) (h0 : Nat) (sz : Nat) (res : St × St × St × St × St × St × St) (hf : fX5_init = some res) : Met l yX5_init wsX5_init ({ frames := 2, cells := 52, slots := 2814, locals := 42 }) (mP D (tysX cI cZ) [.ref h0] [(h0, .inr (5, [.null, .null, .null, .null, .null, .null, .null, .null, .null, .int 0]))] sz) (mQn D (fun A => A 0 = h0) (fun A => wX5 cI cZ A res.1 res.2.1 res.2.2.1 res.2.2.2.1 res.2.2.2.2.1 res.2.2.2.2.2.1 res.2.2.2.2.2.2) [(h0, .inr (5, [.null, .null, .null, .null, .null, .null, .null, .null, .null, .int 0]))] sz) 52 2814 (va_A [(h0, .inr (5, [.null, .null, .null, .null, .null, .null, .null, .null, .null, .int 0]))] sz) := by
  refine mkN (cc := cX5_init) (maxL := 2) (own := RX5) (by decide +kernel) rfl rfl (Nat.le_of_ble_eq_true rfl) rfl ?_
  intro p e s m args below meth c A0 Q S hK hG hA hin hR
  obtain ⟨hx, hb, hml, hown, hts⟩ := id S
  have iX4 : ∀ w ∈ wsX40, w ∈ wsX5_init := by decide +kernel
  have k12 := hts (.fieldLink RX5 12 "SwitchFloor" "wiring" "LSwitchFloor$Wiring;") (by decide +kernel)
  have iX5 : ∀ w ∈ wsX50, w ∈ wsX5_init := by decide +kernel
  have iX3 : ∀ w ∈ wsX30, w ∈ wsX5_init := by decide +kernel
  have k21 := hts (.fieldLink RX5 21 "SwitchFloor" "tree" "LSwitchFloor$Tree;") (by decide +kernel)
  have k25 := hts (.fieldLink RX5 25 "SwitchFloor" "ahead" "LSwitchFloor$Tree;") (by decide +kernel)
  have iX0 : ∀ w ∈ wsX00, w ∈ wsX5_init := by decide +kernel
  have k31 := hts (.fieldLink RX5 31 "SwitchFloor" "lanes" "LSwitchFloor$Lanes;") (by decide +kernel)
  have iX2 : ∀ w ∈ wsX20, w ∈ wsX5_init := by decide +kernel
  have k38 := hts (.fieldLink RX5 38 "SwitchFloor" "tables" "LSwitchFloor$Tables;") (by decide +kernel)
  have iX1 : ∀ w ∈ wsX10, w ∈ wsX5_init := by decide +kernel
  have k45 := hts (.fieldLink RX5 45 "SwitchFloor" "steps" "LSwitchFloor$Steps;") (by decide +kernel)
  have k49 := hts (.fieldLink RX5 49 "SwitchFloor" "floods" "[I") (by decide +kernel)
  have k53 := hts (.fieldLink RX5 53 "SwitchFloor" "gotFrames" "[I") (by decide +kernel)
  have k56 := hts (.fieldLink RX5 56 "SwitchFloor" "overheardFrames" "[I") (by decide +kernel)
  have k59 := hts (.fieldLink RX5 59 "SwitchFloor" "floodLimit" "I") (by decide +kernel)
  intro H locs hP hD hS ls hl
  have hl : lv_has ls 2 [(0, .ref h0)] := hl
  unfold fX5_init at hf
  refine lv_aload_n hx hb dX5_init_0 rfl (lv_at hl 0 rfl) ?_
  refine W.objInit hx hb hown (hts (.methodLink RX5 3 objectInit) (by decide +kernel)) (hts (.instanceMethod objectInit) (by decide +kernel)) (hts (.code objectInit ⟨#[0xb1]⟩ 1 none) (by decide +kernel)) rfl (by rw [hml]; exact hl.1) rfl dX5_init_1 (Nat.le_of_ble_eq_true rfl) (Nat.le_of_ble_eq_true rfl) ?_
  refine W.eq (g2 := F0 m 4 ls []) rfl ?_
  refine va_new (ci := 4) (fs := [.null, .null, .null, .null, .null, .null, .int 0, .int 0]) (C := RX4) (T := TX4) (N := 8) hx hb hts iX4 tyX4 tyX4_ok hown (hts (.classLink RX5 9 RX4) (by decide +kernel)) (hts (.instantiable RX4 8) (by decide +kernel)) (hts (.initialized RX4) (by decide +kernel)) hK hP hD hS hA rfl (fun j hj => by rcases (show j = 0 ∨ j = 1 ∨ j = 2 ∨ j = 3 ∨ j = 4 ∨ j = 5 ∨ j = 6 ∨ j = 7 by omega) with rfl | rfl | rfl | rfl | rfl | rfl | rfl | rfl <;> rfl) (Nat.le_of_ble_eq_true rfl) (Nat.le_of_ble_eq_true rfl) dX5_init_4 (fun qo1 H hP hD hS => ?_)
  refine W.widen (k := 1) (n := 8) (Nat.le_refl _) (Nat.le_refl _) ?_
  refine lv_dup hx hb dX5_init_7 rfl ?_
  obtain ⟨r1, hr1, hf⟩ := bd_t hf
  refine cl_n (ws := [(h0, .inr (5, [.null, .null, .null, .null, .null, .null, .null, .null, .null, .int 0]))]) (va_runI (As := []) (rest := [.ref qo1]) S (nX4_init l D cI cZ qo1 H.size r1 hr1) (cwI 0 hts gX5_init_X4_init rfl rfl rfl (hts (.initialized RX4) (by decide +kernel)) (hts (.methodLink RX5 11 yX4_init) (by decide +kernel)) (hts (.instanceMethod yX4_init) (by decide +kernel)) rfl (by decide +kernel) ⟨Nat.le_of_ble_eq_true rfl, Nat.le_of_ble_eq_true rfl⟩) (mP_S (Cut.last _ _ []) hP hD hK hG) rfl rfl hl.1 rfl (lv_room (Nat.le_of_ble_eq_true rfl)) dX5_init_8 ⟨Nat.le_of_ble_eq_true rfl, Nat.le_of_ble_eq_true rfl⟩) hP hD hS hA (fun Ao1 H locs eo1 hPn hDn hSn => ?_)
  have eo1 : Ao1 0 = qo1 := eo1
  subst eo1
  have hP : va_P D vwCl ([(h0, .inr (5, [.null, .null, .null, .null, .null, .null, .null, .null, .null, .int 0]))] ++ wX4 cI cZ Ao1 r1) H := hPn
  have hD : va_D A0 ([(h0, .inr (5, [.null, .null, .null, .null, .null, .null, .null, .null, .null, .int 0]))] ++ wX4 cI cZ Ao1 r1) := hDn
  have hS := hSn
  refine W.widen (k := 7) (n := 144) (Nat.le_refl _) (Nat.le_refl _) ?_
  refine lv_astore_n (lv' := [(1, .ref (Ao1 0)), (0, .ref h0)]) hx hb dX5_init_11 rfl hl (by decide) rfl (fun ls hl => ?_)
  refine lv_aload_n hx hb dX5_init_12 rfl (lv_at hl 1 rfl) ?_
  refine lv_aload_n hx hb dX5_init_13 rfl (lv_at hl 0 rfl) ?_
  refine va_putF (D := D) (ci := 5) (v := .ref (Ao1 0)) (ty := .object "SwitchFloor$Wiring") (C := RX5) (T := TX5) (N := 10) hx hb hts iX5 tyX5 tyX5_ok nmX5 hown hK hP hD hS 0 rfl rfl 0 (by decide) k12 (fun _ h9 => h9) rfl hin rfl (by decide +kernel) rfl rfl (Nat.le_of_ble_eq_true rfl) dX5_init_14 (fun H locs hP hD hS => ?_)
  have hP : va_P D vwCl ([(h0, .inr (5, [.ref (Ao1 0), .null, .null, .null, .null, .null, .null, .null, .null, .int 0]))] ++ wX4 cI cZ Ao1 r1) H := hP
  have hD : va_D A0 ([(h0, .inr (5, [.ref (Ao1 0), .null, .null, .null, .null, .null, .null, .null, .null, .int 0]))] ++ wX4 cI cZ Ao1 r1) := hD
  refine lv_aload_n hx hb dX5_init_17 rfl (lv_at hl 1 rfl) ?_
  refine va_new (ci := 3) (fs := [.null, .null, .null, .null, .null, .null, .null, .null, .null, .int 0, .null, .null, .null, .null, .null, .null]) (C := RX3) (T := TX3) (N := 16) hx hb hts iX3 tyX3 tyX3_ok hown (hts (.classLink RX5 16 RX3) (by decide +kernel)) (hts (.instantiable RX3 16) (by decide +kernel)) (hts (.initialized RX3) (by decide +kernel)) hK hP hD hS hA rfl (fun j hj => by rcases (show j = 0 ∨ j = 1 ∨ j = 2 ∨ j = 3 ∨ j = 4 ∨ j = 5 ∨ j = 6 ∨ j = 7 ∨ j = 8 ∨ j = 9 ∨ j = 10 ∨ j = 11 ∨ j = 12 ∨ j = 13 ∨ j = 14 ∨ j = 15 by omega) with rfl | rfl | rfl | rfl | rfl | rfl | rfl | rfl | rfl | rfl | rfl | rfl | rfl | rfl | rfl | rfl <;> rfl) (Nat.le_of_ble_eq_true rfl) (Nat.le_of_ble_eq_true rfl) dX5_init_18 (fun qo2 H hP hD hS => ?_)
  refine W.widen (k := 8) (n := 160) (Nat.le_refl _) (Nat.le_refl _) ?_
  refine lv_dup hx hb dX5_init_21 rfl ?_
  refine lv_aload_n hx hb dX5_init_22 rfl (lv_at hl 0 rfl) ?_
  obtain ⟨r2, hr2, hf⟩ := bd_t hf
  refine cl_n (ws := ([(h0, .inr (5, [.ref (Ao1 0), .null, .null, .null, .null, .null, .null, .null, .null, .int 0]))] ++ wX4 cI cZ Ao1 r1)) (va_runI (As := [.ref (Ao1 0)]) (rest := [.ref qo2, .ref h0]) S (nX3_init l D cI cZ qo2 (Ao1 0) H.size r2 hr2) (cwI 1 hts gX5_init_X3_init rfl rfl rfl (hts (.initialized RX3) (by decide +kernel)) (hts (.methodLink RX5 18 yX3_init) (by decide +kernel)) (hts (.instanceMethod yX3_init) (by decide +kernel)) rfl (by decide +kernel) ⟨Nat.le_of_ble_eq_true rfl, Nat.le_of_ble_eq_true rfl⟩) (mP_S (Cut.last _ _ []) hP hD hK hG) rfl rfl hl.1 rfl (lv_room (Nat.le_of_ble_eq_true rfl)) dX5_init_23 ⟨Nat.le_of_ble_eq_true rfl, Nat.le_of_ble_eq_true rfl⟩) hP hD hS hA (fun Ao2 H locs eo2 hPn hDn hSn => ?_)
  have eo2 : Ao2 0 = qo2 := eo2
  subst eo2
  have hP : va_P D vwCl (([(h0, .inr (5, [.ref (Ao1 0), .null, .null, .null, .null, .null, .null, .null, .null, .int 0]))] ++ wX4 cI cZ Ao1 r1) ++ wX3t cI cZ (fun j => bif Nat.beq j 15 then (Ao1 0) else Ao2 j) r2) H := hPn
  have hD : va_D A0 (([(h0, .inr (5, [.ref (Ao1 0), .null, .null, .null, .null, .null, .null, .null, .null, .int 0]))] ++ wX4 cI cZ Ao1 r1) ++ wX3t cI cZ (fun j => bif Nat.beq j 15 then (Ao1 0) else Ao2 j) r2) := hDn
  have hS := hSn
  refine W.widen (k := 22) (n := 436) (Nat.le_refl _) (Nat.le_refl _) ?_
  refine va_putF (D := D) (ci := 5) (v := .ref (Ao2 0)) (ty := .object "SwitchFloor$Tree") (C := RX5) (T := TX5) (N := 10) hx hb hts iX5 tyX5 tyX5_ok nmX5 hown hK hP hD hS 0 rfl rfl 1 (by decide) k21 (fun _ h9 => h9) rfl hin rfl (by decide +kernel) rfl rfl (Nat.le_of_ble_eq_true rfl) dX5_init_26 (fun H locs hP hD hS => ?_)
  have hP : va_P D vwCl (([(h0, .inr (5, [.ref (Ao1 0), .ref (Ao2 0), .null, .null, .null, .null, .null, .null, .null, .int 0]))] ++ wX4 cI cZ Ao1 r1) ++ wX3t cI cZ (fun j => bif Nat.beq j 15 then (Ao1 0) else Ao2 j) r2) H := hP
  have hD : va_D A0 (([(h0, .inr (5, [.ref (Ao1 0), .ref (Ao2 0), .null, .null, .null, .null, .null, .null, .null, .int 0]))] ++ wX4 cI cZ Ao1 r1) ++ wX3t cI cZ (fun j => bif Nat.beq j 15 then (Ao1 0) else Ao2 j) r2) := hD
  refine lv_aload_n hx hb dX5_init_29 rfl (lv_at hl 1 rfl) ?_
  refine va_new (ci := 3) (fs := [.null, .null, .null, .null, .null, .null, .null, .null, .null, .int 0, .null, .null, .null, .null, .null, .null]) (C := RX3) (T := TX3) (N := 16) hx hb hts iX3 tyX3 tyX3_ok hown (hts (.classLink RX5 16 RX3) (by decide +kernel)) (hts (.instantiable RX3 16) (by decide +kernel)) (hts (.initialized RX3) (by decide +kernel)) hK hP hD hS hA rfl (fun j hj => by rcases (show j = 0 ∨ j = 1 ∨ j = 2 ∨ j = 3 ∨ j = 4 ∨ j = 5 ∨ j = 6 ∨ j = 7 ∨ j = 8 ∨ j = 9 ∨ j = 10 ∨ j = 11 ∨ j = 12 ∨ j = 13 ∨ j = 14 ∨ j = 15 by omega) with rfl | rfl | rfl | rfl | rfl | rfl | rfl | rfl | rfl | rfl | rfl | rfl | rfl | rfl | rfl | rfl <;> rfl) (Nat.le_of_ble_eq_true rfl) (Nat.le_of_ble_eq_true rfl) dX5_init_30 (fun qo3 H hP hD hS => ?_)
  refine W.widen (k := 23) (n := 452) (Nat.le_refl _) (Nat.le_refl _) ?_
  refine lv_dup hx hb dX5_init_33 rfl ?_
  refine lv_aload_n hx hb dX5_init_34 rfl (lv_at hl 0 rfl) ?_
  obtain ⟨r3, hr3, hf⟩ := bd_t hf
  refine cl_n (ws := (([(h0, .inr (5, [.ref (Ao1 0), .ref (Ao2 0), .null, .null, .null, .null, .null, .null, .null, .int 0]))] ++ wX4 cI cZ Ao1 r1) ++ wX3t cI cZ (fun j => bif Nat.beq j 15 then (Ao1 0) else Ao2 j) r2)) (va_runI (As := [.ref (Ao1 0)]) (rest := [.ref qo3, .ref h0]) S (nX3_init l D cI cZ qo3 (Ao1 0) H.size r3 hr3) (cwI 1 hts gX5_init_X3_init rfl rfl rfl (hts (.initialized RX3) (by decide +kernel)) (hts (.methodLink RX5 18 yX3_init) (by decide +kernel)) (hts (.instanceMethod yX3_init) (by decide +kernel)) rfl (by decide +kernel) ⟨Nat.le_of_ble_eq_true rfl, Nat.le_of_ble_eq_true rfl⟩) (mP_S (Cut.last _ _ []) hP hD hK hG) rfl rfl hl.1 rfl (lv_room (Nat.le_of_ble_eq_true rfl)) dX5_init_35 ⟨Nat.le_of_ble_eq_true rfl, Nat.le_of_ble_eq_true rfl⟩) hP hD hS hA (fun Ao3 H locs eo3 hPn hDn hSn => ?_)
  have eo3 : Ao3 0 = qo3 := eo3
  subst eo3
  have hP : va_P D vwCl ((([(h0, .inr (5, [.ref (Ao1 0), .ref (Ao2 0), .null, .null, .null, .null, .null, .null, .null, .int 0]))] ++ wX4 cI cZ Ao1 r1) ++ wX3t cI cZ (fun j => bif Nat.beq j 15 then (Ao1 0) else Ao2 j) r2) ++ wX3t cI cZ (fun j => bif Nat.beq j 15 then (Ao1 0) else Ao3 j) r3) H := hPn
  have hD : va_D A0 ((([(h0, .inr (5, [.ref (Ao1 0), .ref (Ao2 0), .null, .null, .null, .null, .null, .null, .null, .int 0]))] ++ wX4 cI cZ Ao1 r1) ++ wX3t cI cZ (fun j => bif Nat.beq j 15 then (Ao1 0) else Ao2 j) r2) ++ wX3t cI cZ (fun j => bif Nat.beq j 15 then (Ao1 0) else Ao3 j) r3) := hDn
  have hS := hSn
  refine W.widen (k := 37) (n := 728) (Nat.le_refl _) (Nat.le_refl _) ?_
  refine va_putF (D := D) (ci := 5) (v := .ref (Ao3 0)) (ty := .object "SwitchFloor$Tree") (C := RX5) (T := TX5) (N := 10) hx hb hts iX5 tyX5 tyX5_ok nmX5 hown hK hP hD hS 0 rfl rfl 2 (by decide) k25 (fun _ h9 => h9) rfl hin rfl (by decide +kernel) rfl rfl (Nat.le_of_ble_eq_true rfl) dX5_init_38 (fun H locs hP hD hS => ?_)
  have hP : va_P D vwCl ((([(h0, .inr (5, [.ref (Ao1 0), .ref (Ao2 0), .ref (Ao3 0), .null, .null, .null, .null, .null, .null, .int 0]))] ++ wX4 cI cZ Ao1 r1) ++ wX3t cI cZ (fun j => bif Nat.beq j 15 then (Ao1 0) else Ao2 j) r2) ++ wX3t cI cZ (fun j => bif Nat.beq j 15 then (Ao1 0) else Ao3 j) r3) H := hP
  have hD : va_D A0 ((([(h0, .inr (5, [.ref (Ao1 0), .ref (Ao2 0), .ref (Ao3 0), .null, .null, .null, .null, .null, .null, .int 0]))] ++ wX4 cI cZ Ao1 r1) ++ wX3t cI cZ (fun j => bif Nat.beq j 15 then (Ao1 0) else Ao2 j) r2) ++ wX3t cI cZ (fun j => bif Nat.beq j 15 then (Ao1 0) else Ao3 j) r3) := hD
  refine lv_aload_n hx hb dX5_init_41 rfl (lv_at hl 1 rfl) ?_
  refine va_new (ci := 0) (fs := [.null, .null]) (C := RX0) (T := TX0) (N := 2) hx hb hts iX0 tyX0 tyX0_ok hown (hts (.classLink RX5 28 RX0) (by decide +kernel)) (hts (.instantiable RX0 2) (by decide +kernel)) (hts (.initialized RX0) (by decide +kernel)) hK hP hD hS hA rfl (fun j hj => by rcases (show j = 0 ∨ j = 1 by omega) with rfl | rfl <;> rfl) (Nat.le_of_ble_eq_true rfl) (Nat.le_of_ble_eq_true rfl) dX5_init_42 (fun qo4 H hP hD hS => ?_)
  refine W.widen (k := 38) (n := 730) (Nat.le_refl _) (Nat.le_refl _) ?_
  refine lv_dup hx hb dX5_init_45 rfl ?_
  obtain ⟨r4, hr4, hf⟩ := bd_t hf
  refine cl_n (ws := ((([(h0, .inr (5, [.ref (Ao1 0), .ref (Ao2 0), .ref (Ao3 0), .null, .null, .null, .null, .null, .null, .int 0]))] ++ wX4 cI cZ Ao1 r1) ++ wX3t cI cZ (fun j => bif Nat.beq j 15 then (Ao1 0) else Ao2 j) r2) ++ wX3t cI cZ (fun j => bif Nat.beq j 15 then (Ao1 0) else Ao3 j) r3)) (va_runI (As := []) (rest := [.ref qo4, .ref h0]) S (nX0_init l D cI cZ qo4 H.size r4 hr4) (cwI 0 hts gX5_init_X0_init rfl rfl rfl (hts (.initialized RX0) (by decide +kernel)) (hts (.methodLink RX5 30 yX0_init) (by decide +kernel)) (hts (.instanceMethod yX0_init) (by decide +kernel)) rfl (by decide +kernel) ⟨Nat.le_of_ble_eq_true rfl, Nat.le_of_ble_eq_true rfl⟩) (mP_S (Cut.last _ _ []) hP hD hK hG) rfl rfl hl.1 rfl (lv_room (Nat.le_of_ble_eq_true rfl)) dX5_init_46 ⟨Nat.le_of_ble_eq_true rfl, Nat.le_of_ble_eq_true rfl⟩) hP hD hS hA (fun Ao4 H locs eo4 hPn hDn hSn => ?_)
  have eo4 : Ao4 0 = qo4 := eo4
  subst eo4
  have hP : va_P D vwCl (((([(h0, .inr (5, [.ref (Ao1 0), .ref (Ao2 0), .ref (Ao3 0), .null, .null, .null, .null, .null, .null, .int 0]))] ++ wX4 cI cZ Ao1 r1) ++ wX3t cI cZ (fun j => bif Nat.beq j 15 then (Ao1 0) else Ao2 j) r2) ++ wX3t cI cZ (fun j => bif Nat.beq j 15 then (Ao1 0) else Ao3 j) r3) ++ wX0 cI cZ Ao4 r4) H := hPn
  have hD : va_D A0 (((([(h0, .inr (5, [.ref (Ao1 0), .ref (Ao2 0), .ref (Ao3 0), .null, .null, .null, .null, .null, .null, .int 0]))] ++ wX4 cI cZ Ao1 r1) ++ wX3t cI cZ (fun j => bif Nat.beq j 15 then (Ao1 0) else Ao2 j) r2) ++ wX3t cI cZ (fun j => bif Nat.beq j 15 then (Ao1 0) else Ao3 j) r3) ++ wX0 cI cZ Ao4 r4) := hDn
  have hS := hSn
  refine W.widen (k := 40) (n := 790) (Nat.le_refl _) (Nat.le_refl _) ?_
  refine va_putF (D := D) (ci := 5) (v := .ref (Ao4 0)) (ty := .object "SwitchFloor$Lanes") (C := RX5) (T := TX5) (N := 10) hx hb hts iX5 tyX5 tyX5_ok nmX5 hown hK hP hD hS 0 rfl rfl 3 (by decide) k31 (fun _ h9 => h9) rfl hin rfl (by decide +kernel) rfl rfl (Nat.le_of_ble_eq_true rfl) dX5_init_49 (fun H locs hP hD hS => ?_)
  have hP : va_P D vwCl (((([(h0, .inr (5, [.ref (Ao1 0), .ref (Ao2 0), .ref (Ao3 0), .ref (Ao4 0), .null, .null, .null, .null, .null, .int 0]))] ++ wX4 cI cZ Ao1 r1) ++ wX3t cI cZ (fun j => bif Nat.beq j 15 then (Ao1 0) else Ao2 j) r2) ++ wX3t cI cZ (fun j => bif Nat.beq j 15 then (Ao1 0) else Ao3 j) r3) ++ wX0 cI cZ Ao4 r4) H := hP
  have hD : va_D A0 (((([(h0, .inr (5, [.ref (Ao1 0), .ref (Ao2 0), .ref (Ao3 0), .ref (Ao4 0), .null, .null, .null, .null, .null, .int 0]))] ++ wX4 cI cZ Ao1 r1) ++ wX3t cI cZ (fun j => bif Nat.beq j 15 then (Ao1 0) else Ao2 j) r2) ++ wX3t cI cZ (fun j => bif Nat.beq j 15 then (Ao1 0) else Ao3 j) r3) ++ wX0 cI cZ Ao4 r4) := hD
  refine lv_aload_n hx hb dX5_init_52 rfl (lv_at hl 1 rfl) ?_
  refine va_new (ci := 2) (fs := [.null, .null, .null]) (C := RX2) (T := TX2) (N := 3) hx hb hts iX2 tyX2 tyX2_ok hown (hts (.classLink RX5 35 RX2) (by decide +kernel)) (hts (.instantiable RX2 3) (by decide +kernel)) (hts (.initialized RX2) (by decide +kernel)) hK hP hD hS hA rfl (fun j hj => by rcases (show j = 0 ∨ j = 1 ∨ j = 2 by omega) with rfl | rfl | rfl <;> rfl) (Nat.le_of_ble_eq_true rfl) (Nat.le_of_ble_eq_true rfl) dX5_init_53 (fun qo5 H hP hD hS => ?_)
  refine W.widen (k := 41) (n := 793) (Nat.le_refl _) (Nat.le_refl _) ?_
  refine lv_dup hx hb dX5_init_56 rfl ?_
  obtain ⟨r5, hr5, hf⟩ := bd_t hf
  refine cl_n (ws := (((([(h0, .inr (5, [.ref (Ao1 0), .ref (Ao2 0), .ref (Ao3 0), .ref (Ao4 0), .null, .null, .null, .null, .null, .int 0]))] ++ wX4 cI cZ Ao1 r1) ++ wX3t cI cZ (fun j => bif Nat.beq j 15 then (Ao1 0) else Ao2 j) r2) ++ wX3t cI cZ (fun j => bif Nat.beq j 15 then (Ao1 0) else Ao3 j) r3) ++ wX0 cI cZ Ao4 r4)) (va_runI (As := []) (rest := [.ref qo5, .ref h0]) S (nX2_init l D cI cZ qo5 H.size r5 hr5) (cwI 0 hts gX5_init_X2_init rfl rfl rfl (hts (.initialized RX2) (by decide +kernel)) (hts (.methodLink RX5 37 yX2_init) (by decide +kernel)) (hts (.instanceMethod yX2_init) (by decide +kernel)) rfl (by decide +kernel) ⟨Nat.le_of_ble_eq_true rfl, Nat.le_of_ble_eq_true rfl⟩) (mP_S (Cut.last _ _ []) hP hD hK hG) rfl rfl hl.1 rfl (lv_room (Nat.le_of_ble_eq_true rfl)) dX5_init_57 ⟨Nat.le_of_ble_eq_true rfl, Nat.le_of_ble_eq_true rfl⟩) hP hD hS hA (fun Ao5 H locs eo5 hPn hDn hSn => ?_)
  have eo5 : Ao5 0 = qo5 := eo5
  subst eo5
  have hP : va_P D vwCl ((((([(h0, .inr (5, [.ref (Ao1 0), .ref (Ao2 0), .ref (Ao3 0), .ref (Ao4 0), .null, .null, .null, .null, .null, .int 0]))] ++ wX4 cI cZ Ao1 r1) ++ wX3t cI cZ (fun j => bif Nat.beq j 15 then (Ao1 0) else Ao2 j) r2) ++ wX3t cI cZ (fun j => bif Nat.beq j 15 then (Ao1 0) else Ao3 j) r3) ++ wX0 cI cZ Ao4 r4) ++ wX2 cI cZ Ao5 r5) H := hPn
  have hD : va_D A0 ((((([(h0, .inr (5, [.ref (Ao1 0), .ref (Ao2 0), .ref (Ao3 0), .ref (Ao4 0), .null, .null, .null, .null, .null, .int 0]))] ++ wX4 cI cZ Ao1 r1) ++ wX3t cI cZ (fun j => bif Nat.beq j 15 then (Ao1 0) else Ao2 j) r2) ++ wX3t cI cZ (fun j => bif Nat.beq j 15 then (Ao1 0) else Ao3 j) r3) ++ wX0 cI cZ Ao4 r4) ++ wX2 cI cZ Ao5 r5) := hDn
  have hS := hSn
  refine W.widen (k := 44) (n := 1159) (Nat.le_refl _) (Nat.le_refl _) ?_
  refine va_putF (D := D) (ci := 5) (v := .ref (Ao5 0)) (ty := .object "SwitchFloor$Tables") (C := RX5) (T := TX5) (N := 10) hx hb hts iX5 tyX5 tyX5_ok nmX5 hown hK hP hD hS 0 rfl rfl 4 (by decide) k38 (fun _ h9 => h9) rfl hin rfl (by decide +kernel) rfl rfl (Nat.le_of_ble_eq_true rfl) dX5_init_60 (fun H locs hP hD hS => ?_)
  have hP : va_P D vwCl ((((([(h0, .inr (5, [.ref (Ao1 0), .ref (Ao2 0), .ref (Ao3 0), .ref (Ao4 0), .ref (Ao5 0), .null, .null, .null, .null, .int 0]))] ++ wX4 cI cZ Ao1 r1) ++ wX3t cI cZ (fun j => bif Nat.beq j 15 then (Ao1 0) else Ao2 j) r2) ++ wX3t cI cZ (fun j => bif Nat.beq j 15 then (Ao1 0) else Ao3 j) r3) ++ wX0 cI cZ Ao4 r4) ++ wX2 cI cZ Ao5 r5) H := hP
  have hD : va_D A0 ((((([(h0, .inr (5, [.ref (Ao1 0), .ref (Ao2 0), .ref (Ao3 0), .ref (Ao4 0), .ref (Ao5 0), .null, .null, .null, .null, .int 0]))] ++ wX4 cI cZ Ao1 r1) ++ wX3t cI cZ (fun j => bif Nat.beq j 15 then (Ao1 0) else Ao2 j) r2) ++ wX3t cI cZ (fun j => bif Nat.beq j 15 then (Ao1 0) else Ao3 j) r3) ++ wX0 cI cZ Ao4 r4) ++ wX2 cI cZ Ao5 r5) := hD
  refine lv_aload_n hx hb dX5_init_63 rfl (lv_at hl 1 rfl) ?_
  refine va_new (ci := 1) (fs := [.null, .null, .null, .null, .int 0]) (C := RX1) (T := TX1) (N := 5) hx hb hts iX1 tyX1 tyX1_ok hown (hts (.classLink RX5 42 RX1) (by decide +kernel)) (hts (.instantiable RX1 5) (by decide +kernel)) (hts (.initialized RX1) (by decide +kernel)) hK hP hD hS hA rfl (fun j hj => by rcases (show j = 0 ∨ j = 1 ∨ j = 2 ∨ j = 3 ∨ j = 4 by omega) with rfl | rfl | rfl | rfl | rfl <;> rfl) (Nat.le_of_ble_eq_true rfl) (Nat.le_of_ble_eq_true rfl) dX5_init_64 (fun qo6 H hP hD hS => ?_)
  refine W.widen (k := 45) (n := 1164) (Nat.le_refl _) (Nat.le_refl _) ?_
  refine lv_dup hx hb dX5_init_67 rfl ?_
  obtain ⟨r6, hr6, hf⟩ := bd_t hf
  refine cl_n (ws := ((((([(h0, .inr (5, [.ref (Ao1 0), .ref (Ao2 0), .ref (Ao3 0), .ref (Ao4 0), .ref (Ao5 0), .null, .null, .null, .null, .int 0]))] ++ wX4 cI cZ Ao1 r1) ++ wX3t cI cZ (fun j => bif Nat.beq j 15 then (Ao1 0) else Ao2 j) r2) ++ wX3t cI cZ (fun j => bif Nat.beq j 15 then (Ao1 0) else Ao3 j) r3) ++ wX0 cI cZ Ao4 r4) ++ wX2 cI cZ Ao5 r5)) (va_runIN (As := []) (rest := [.ref qo6, .ref h0]) S (nX1_init l D cI cZ qo6 H.size r6 hr6) ⟨va_cnB 0 hts gX5_init_X1_init_n44 rfl rfl rfl hG.2 (hts (.initialized RX1) (by decide +kernel)) (by decide +kernel) ⟨Nat.le_of_ble_eq_true rfl, Nat.le_of_ble_eq_true rfl⟩, rfl, hts (.instanceMethod yX1_init) (by decide +kernel)⟩ (mP_S (Cut.last _ _ []) hP hD hK hG) rfl rfl hl.1 rfl (lv_room (Nat.le_of_ble_eq_true rfl)) dX5_init_68 ⟨Nat.le_of_ble_eq_true rfl, Nat.le_of_ble_eq_true rfl⟩) hP hD hS hA (fun Ao6 H locs eo6 hPn hDn hSn => ?_)
  have eo6 : Ao6 0 = qo6 := eo6
  subst eo6
  have hP : va_P D vwCl (((((([(h0, .inr (5, [.ref (Ao1 0), .ref (Ao2 0), .ref (Ao3 0), .ref (Ao4 0), .ref (Ao5 0), .null, .null, .null, .null, .int 0]))] ++ wX4 cI cZ Ao1 r1) ++ wX3t cI cZ (fun j => bif Nat.beq j 15 then (Ao1 0) else Ao2 j) r2) ++ wX3t cI cZ (fun j => bif Nat.beq j 15 then (Ao1 0) else Ao3 j) r3) ++ wX0 cI cZ Ao4 r4) ++ wX2 cI cZ Ao5 r5) ++ wX1 cI cZ Ao6 r6) H := hPn
  have hD : va_D A0 (((((([(h0, .inr (5, [.ref (Ao1 0), .ref (Ao2 0), .ref (Ao3 0), .ref (Ao4 0), .ref (Ao5 0), .null, .null, .null, .null, .int 0]))] ++ wX4 cI cZ Ao1 r1) ++ wX3t cI cZ (fun j => bif Nat.beq j 15 then (Ao1 0) else Ao2 j) r2) ++ wX3t cI cZ (fun j => bif Nat.beq j 15 then (Ao1 0) else Ao3 j) r3) ++ wX0 cI cZ Ao4 r4) ++ wX2 cI cZ Ao5 r5) ++ wX1 cI cZ Ao6 r6) := hDn
  have hS := hSn
  refine W.widen (k := 49) (n := 2764) (Nat.le_refl _) (Nat.le_refl _) ?_
  refine va_putF (D := D) (ci := 5) (v := .ref (Ao6 0)) (ty := .object "SwitchFloor$Steps") (C := RX5) (T := TX5) (N := 10) hx hb hts iX5 tyX5 tyX5_ok nmX5 hown hK hP hD hS 0 rfl rfl 5 (by decide) k45 (fun _ h9 => h9) rfl hin rfl (by decide +kernel) rfl rfl (Nat.le_of_ble_eq_true rfl) dX5_init_71 (fun H locs hP hD hS => ?_)
  have hP : va_P D vwCl (((((([(h0, .inr (5, [.ref (Ao1 0), .ref (Ao2 0), .ref (Ao3 0), .ref (Ao4 0), .ref (Ao5 0), .ref (Ao6 0), .null, .null, .null, .int 0]))] ++ wX4 cI cZ Ao1 r1) ++ wX3t cI cZ (fun j => bif Nat.beq j 15 then (Ao1 0) else Ao2 j) r2) ++ wX3t cI cZ (fun j => bif Nat.beq j 15 then (Ao1 0) else Ao3 j) r3) ++ wX0 cI cZ Ao4 r4) ++ wX2 cI cZ Ao5 r5) ++ wX1 cI cZ Ao6 r6) H := hP
  have hD : va_D A0 (((((([(h0, .inr (5, [.ref (Ao1 0), .ref (Ao2 0), .ref (Ao3 0), .ref (Ao4 0), .ref (Ao5 0), .ref (Ao6 0), .null, .null, .null, .int 0]))] ++ wX4 cI cZ Ao1 r1) ++ wX3t cI cZ (fun j => bif Nat.beq j 15 then (Ao1 0) else Ao2 j) r2) ++ wX3t cI cZ (fun j => bif Nat.beq j 15 then (Ao1 0) else Ao3 j) r3) ++ wX0 cI cZ Ao4 r4) ++ wX2 cI cZ Ao5 r5) ++ wX1 cI cZ Ao6 r6) := hD
  refine lv_aload_n hx hb dX5_init_74 rfl (lv_at hl 1 rfl) ?_
  refine lv_bipush (v := 30) hx hb dX5_init_75 (by decide) ?_
  refine nw_i hx hb (hts (.arrayClass .int) (by decide +kernel)) hK hP hD hS hA 0 rfl 30 (by decide) (by decide) (by decide) (Nat.le_of_ble_eq_true rfl) (Nat.le_of_ble_eq_true rfl) dX5_init_77 (fun qa1 H hP hD hS => ?_)
  have hP : va_P D vwCl ((((((([(h0, .inr (5, [.ref (Ao1 0), .ref (Ao2 0), .ref (Ao3 0), .ref (Ao4 0), .ref (Ao5 0), .ref (Ao6 0), .null, .null, .null, .int 0]))] ++ wX4 cI cZ Ao1 r1) ++ wX3t cI cZ (fun j => bif Nat.beq j 15 then (Ao1 0) else Ao2 j) r2) ++ wX3t cI cZ (fun j => bif Nat.beq j 15 then (Ao1 0) else Ao3 j) r3) ++ wX0 cI cZ Ao4 r4) ++ wX2 cI cZ Ao5 r5) ++ wX1 cI cZ Ao6 r6) ++ [(qa1, .inl (cI, 30, .inl (fun _ => 0)))]) H := hP
  have hD : va_D A0 ((((((([(h0, .inr (5, [.ref (Ao1 0), .ref (Ao2 0), .ref (Ao3 0), .ref (Ao4 0), .ref (Ao5 0), .ref (Ao6 0), .null, .null, .null, .int 0]))] ++ wX4 cI cZ Ao1 r1) ++ wX3t cI cZ (fun j => bif Nat.beq j 15 then (Ao1 0) else Ao2 j) r2) ++ wX3t cI cZ (fun j => bif Nat.beq j 15 then (Ao1 0) else Ao3 j) r3) ++ wX0 cI cZ Ao4 r4) ++ wX2 cI cZ Ao5 r5) ++ wX1 cI cZ Ao6 r6) ++ [(qa1, .inl (cI, 30, .inl (fun _ => 0)))]) := hD
  refine W.widen (k := 50) (n := 2794) (Nat.le_refl _) (Nat.le_refl _) ?_
  refine va_putF (D := D) (ci := 5) (v := .ref qa1) (ty := .array .int) (C := RX5) (T := TX5) (N := 10) hx hb hts iX5 tyX5 tyX5_ok nmX5 hown hK hP hD hS 0 rfl rfl 6 (by decide) k49 (fun _ h9 => h9) rfl hin rfl (by decide +kernel) rfl rfl (Nat.le_of_ble_eq_true rfl) dX5_init_79 (fun H locs hP hD hS => ?_)
  have hP : va_P D vwCl ((((((([(h0, .inr (5, [.ref (Ao1 0), .ref (Ao2 0), .ref (Ao3 0), .ref (Ao4 0), .ref (Ao5 0), .ref (Ao6 0), .ref qa1, .null, .null, .int 0]))] ++ wX4 cI cZ Ao1 r1) ++ wX3t cI cZ (fun j => bif Nat.beq j 15 then (Ao1 0) else Ao2 j) r2) ++ wX3t cI cZ (fun j => bif Nat.beq j 15 then (Ao1 0) else Ao3 j) r3) ++ wX0 cI cZ Ao4 r4) ++ wX2 cI cZ Ao5 r5) ++ wX1 cI cZ Ao6 r6) ++ [(qa1, .inl (cI, 30, .inl (fun _ => 0)))]) H := hP
  have hD : va_D A0 ((((((([(h0, .inr (5, [.ref (Ao1 0), .ref (Ao2 0), .ref (Ao3 0), .ref (Ao4 0), .ref (Ao5 0), .ref (Ao6 0), .ref qa1, .null, .null, .int 0]))] ++ wX4 cI cZ Ao1 r1) ++ wX3t cI cZ (fun j => bif Nat.beq j 15 then (Ao1 0) else Ao2 j) r2) ++ wX3t cI cZ (fun j => bif Nat.beq j 15 then (Ao1 0) else Ao3 j) r3) ++ wX0 cI cZ Ao4 r4) ++ wX2 cI cZ Ao5 r5) ++ wX1 cI cZ Ao6 r6) ++ [(qa1, .inl (cI, 30, .inl (fun _ => 0)))]) := hD
  refine lv_aload_n hx hb dX5_init_82 rfl (lv_at hl 1 rfl) ?_
  refine lv_bipush (v := 10) hx hb dX5_init_83 (by decide) ?_
  refine nw_i hx hb (hts (.arrayClass .int) (by decide +kernel)) hK hP hD hS hA 0 rfl 10 (by decide) (by decide) (by decide) (Nat.le_of_ble_eq_true rfl) (Nat.le_of_ble_eq_true rfl) dX5_init_85 (fun qa2 H hP hD hS => ?_)
  have hP : va_P D vwCl (((((((([(h0, .inr (5, [.ref (Ao1 0), .ref (Ao2 0), .ref (Ao3 0), .ref (Ao4 0), .ref (Ao5 0), .ref (Ao6 0), .ref qa1, .null, .null, .int 0]))] ++ wX4 cI cZ Ao1 r1) ++ wX3t cI cZ (fun j => bif Nat.beq j 15 then (Ao1 0) else Ao2 j) r2) ++ wX3t cI cZ (fun j => bif Nat.beq j 15 then (Ao1 0) else Ao3 j) r3) ++ wX0 cI cZ Ao4 r4) ++ wX2 cI cZ Ao5 r5) ++ wX1 cI cZ Ao6 r6) ++ [(qa1, .inl (cI, 30, .inl (fun _ => 0)))]) ++ [(qa2, .inl (cI, 10, .inl (fun _ => 0)))]) H := hP
  have hD : va_D A0 (((((((([(h0, .inr (5, [.ref (Ao1 0), .ref (Ao2 0), .ref (Ao3 0), .ref (Ao4 0), .ref (Ao5 0), .ref (Ao6 0), .ref qa1, .null, .null, .int 0]))] ++ wX4 cI cZ Ao1 r1) ++ wX3t cI cZ (fun j => bif Nat.beq j 15 then (Ao1 0) else Ao2 j) r2) ++ wX3t cI cZ (fun j => bif Nat.beq j 15 then (Ao1 0) else Ao3 j) r3) ++ wX0 cI cZ Ao4 r4) ++ wX2 cI cZ Ao5 r5) ++ wX1 cI cZ Ao6 r6) ++ [(qa1, .inl (cI, 30, .inl (fun _ => 0)))]) ++ [(qa2, .inl (cI, 10, .inl (fun _ => 0)))]) := hD
  refine W.widen (k := 51) (n := 2804) (Nat.le_refl _) (Nat.le_refl _) ?_
  refine va_putF (D := D) (ci := 5) (v := .ref qa2) (ty := .array .int) (C := RX5) (T := TX5) (N := 10) hx hb hts iX5 tyX5 tyX5_ok nmX5 hown hK hP hD hS 0 rfl rfl 7 (by decide) k53 (fun _ h9 => h9) rfl hin rfl (by decide +kernel) rfl rfl (Nat.le_of_ble_eq_true rfl) dX5_init_87 (fun H locs hP hD hS => ?_)
  have hP : va_P D vwCl (((((((([(h0, .inr (5, [.ref (Ao1 0), .ref (Ao2 0), .ref (Ao3 0), .ref (Ao4 0), .ref (Ao5 0), .ref (Ao6 0), .ref qa1, .ref qa2, .null, .int 0]))] ++ wX4 cI cZ Ao1 r1) ++ wX3t cI cZ (fun j => bif Nat.beq j 15 then (Ao1 0) else Ao2 j) r2) ++ wX3t cI cZ (fun j => bif Nat.beq j 15 then (Ao1 0) else Ao3 j) r3) ++ wX0 cI cZ Ao4 r4) ++ wX2 cI cZ Ao5 r5) ++ wX1 cI cZ Ao6 r6) ++ [(qa1, .inl (cI, 30, .inl (fun _ => 0)))]) ++ [(qa2, .inl (cI, 10, .inl (fun _ => 0)))]) H := hP
  have hD : va_D A0 (((((((([(h0, .inr (5, [.ref (Ao1 0), .ref (Ao2 0), .ref (Ao3 0), .ref (Ao4 0), .ref (Ao5 0), .ref (Ao6 0), .ref qa1, .ref qa2, .null, .int 0]))] ++ wX4 cI cZ Ao1 r1) ++ wX3t cI cZ (fun j => bif Nat.beq j 15 then (Ao1 0) else Ao2 j) r2) ++ wX3t cI cZ (fun j => bif Nat.beq j 15 then (Ao1 0) else Ao3 j) r3) ++ wX0 cI cZ Ao4 r4) ++ wX2 cI cZ Ao5 r5) ++ wX1 cI cZ Ao6 r6) ++ [(qa1, .inl (cI, 30, .inl (fun _ => 0)))]) ++ [(qa2, .inl (cI, 10, .inl (fun _ => 0)))]) := hD
  refine lv_aload_n hx hb dX5_init_90 rfl (lv_at hl 1 rfl) ?_
  refine lv_bipush (v := 10) hx hb dX5_init_91 (by decide) ?_
  refine nw_i hx hb (hts (.arrayClass .int) (by decide +kernel)) hK hP hD hS hA 0 rfl 10 (by decide) (by decide) (by decide) (Nat.le_of_ble_eq_true rfl) (Nat.le_of_ble_eq_true rfl) dX5_init_93 (fun qa3 H hP hD hS => ?_)
  have hP : va_P D vwCl ((((((((([(h0, .inr (5, [.ref (Ao1 0), .ref (Ao2 0), .ref (Ao3 0), .ref (Ao4 0), .ref (Ao5 0), .ref (Ao6 0), .ref qa1, .ref qa2, .null, .int 0]))] ++ wX4 cI cZ Ao1 r1) ++ wX3t cI cZ (fun j => bif Nat.beq j 15 then (Ao1 0) else Ao2 j) r2) ++ wX3t cI cZ (fun j => bif Nat.beq j 15 then (Ao1 0) else Ao3 j) r3) ++ wX0 cI cZ Ao4 r4) ++ wX2 cI cZ Ao5 r5) ++ wX1 cI cZ Ao6 r6) ++ [(qa1, .inl (cI, 30, .inl (fun _ => 0)))]) ++ [(qa2, .inl (cI, 10, .inl (fun _ => 0)))]) ++ [(qa3, .inl (cI, 10, .inl (fun _ => 0)))]) H := hP
  have hD : va_D A0 ((((((((([(h0, .inr (5, [.ref (Ao1 0), .ref (Ao2 0), .ref (Ao3 0), .ref (Ao4 0), .ref (Ao5 0), .ref (Ao6 0), .ref qa1, .ref qa2, .null, .int 0]))] ++ wX4 cI cZ Ao1 r1) ++ wX3t cI cZ (fun j => bif Nat.beq j 15 then (Ao1 0) else Ao2 j) r2) ++ wX3t cI cZ (fun j => bif Nat.beq j 15 then (Ao1 0) else Ao3 j) r3) ++ wX0 cI cZ Ao4 r4) ++ wX2 cI cZ Ao5 r5) ++ wX1 cI cZ Ao6 r6) ++ [(qa1, .inl (cI, 30, .inl (fun _ => 0)))]) ++ [(qa2, .inl (cI, 10, .inl (fun _ => 0)))]) ++ [(qa3, .inl (cI, 10, .inl (fun _ => 0)))]) := hD
  refine W.widen (k := 52) (n := 2814) (Nat.le_refl _) (Nat.le_refl _) ?_
  refine va_putF (D := D) (ci := 5) (v := .ref qa3) (ty := .array .int) (C := RX5) (T := TX5) (N := 10) hx hb hts iX5 tyX5 tyX5_ok nmX5 hown hK hP hD hS 0 rfl rfl 8 (by decide) k56 (fun _ h9 => h9) rfl hin rfl (by decide +kernel) rfl rfl (Nat.le_of_ble_eq_true rfl) dX5_init_95 (fun H locs hP hD hS => ?_)
  have hP : va_P D vwCl ((((((((([(h0, .inr (5, [.ref (Ao1 0), .ref (Ao2 0), .ref (Ao3 0), .ref (Ao4 0), .ref (Ao5 0), .ref (Ao6 0), .ref qa1, .ref qa2, .ref qa3, .int 0]))] ++ wX4 cI cZ Ao1 r1) ++ wX3t cI cZ (fun j => bif Nat.beq j 15 then (Ao1 0) else Ao2 j) r2) ++ wX3t cI cZ (fun j => bif Nat.beq j 15 then (Ao1 0) else Ao3 j) r3) ++ wX0 cI cZ Ao4 r4) ++ wX2 cI cZ Ao5 r5) ++ wX1 cI cZ Ao6 r6) ++ [(qa1, .inl (cI, 30, .inl (fun _ => 0)))]) ++ [(qa2, .inl (cI, 10, .inl (fun _ => 0)))]) ++ [(qa3, .inl (cI, 10, .inl (fun _ => 0)))]) H := hP
  have hD : va_D A0 ((((((((([(h0, .inr (5, [.ref (Ao1 0), .ref (Ao2 0), .ref (Ao3 0), .ref (Ao4 0), .ref (Ao5 0), .ref (Ao6 0), .ref qa1, .ref qa2, .ref qa3, .int 0]))] ++ wX4 cI cZ Ao1 r1) ++ wX3t cI cZ (fun j => bif Nat.beq j 15 then (Ao1 0) else Ao2 j) r2) ++ wX3t cI cZ (fun j => bif Nat.beq j 15 then (Ao1 0) else Ao3 j) r3) ++ wX0 cI cZ Ao4 r4) ++ wX2 cI cZ Ao5 r5) ++ wX1 cI cZ Ao6 r6) ++ [(qa1, .inl (cI, 30, .inl (fun _ => 0)))]) ++ [(qa2, .inl (cI, 10, .inl (fun _ => 0)))]) ++ [(qa3, .inl (cI, 10, .inl (fun _ => 0)))]) := hD
  refine lv_aload_n hx hb dX5_init_98 rfl (lv_at hl 1 rfl) ?_
  refine lv_bipush (v := 20) hx hb dX5_init_99 (by decide) ?_
  refine st_f S iX5 tyX5 tyX5_ok nmX5 hK hP hD hS 0 9 (fs := [.ref (Ao1 0), .ref (Ao2 0), .ref (Ao3 0), .ref (Ao4 0), .ref (Ao5 0), .ref (Ao6 0), .ref qa1, .ref qa2, .ref qa3, .int 0]) rfl rfl rfl (by decide) k59 rfl rfl (by decide +kernel) rfl dX5_init_101 (fun H locs hP hD hS => ?_)
  have hP : va_P D vwCl ((((((((([(h0, .inr (5, [.ref (Ao1 0), .ref (Ao2 0), .ref (Ao3 0), .ref (Ao4 0), .ref (Ao5 0), .ref (Ao6 0), .ref qa1, .ref qa2, .ref qa3, .int 20]))] ++ wX4 cI cZ Ao1 r1) ++ wX3t cI cZ (fun j => bif Nat.beq j 15 then (Ao1 0) else Ao2 j) r2) ++ wX3t cI cZ (fun j => bif Nat.beq j 15 then (Ao1 0) else Ao3 j) r3) ++ wX0 cI cZ Ao4 r4) ++ wX2 cI cZ Ao5 r5) ++ wX1 cI cZ Ao6 r6) ++ [(qa1, .inl (cI, 30, .inl (fun _ => 0)))]) ++ [(qa2, .inl (cI, 10, .inl (fun _ => 0)))]) ++ [(qa3, .inl (cI, 10, .inl (fun _ => 0)))]) H := hP
  have hD : va_D A0 ((((((((([(h0, .inr (5, [.ref (Ao1 0), .ref (Ao2 0), .ref (Ao3 0), .ref (Ao4 0), .ref (Ao5 0), .ref (Ao6 0), .ref qa1, .ref qa2, .ref qa3, .int 20]))] ++ wX4 cI cZ Ao1 r1) ++ wX3t cI cZ (fun j => bif Nat.beq j 15 then (Ao1 0) else Ao2 j) r2) ++ wX3t cI cZ (fun j => bif Nat.beq j 15 then (Ao1 0) else Ao3 j) r3) ++ wX0 cI cZ Ao4 r4) ++ wX2 cI cZ Ao5 r5) ++ wX1 cI cZ Ao6 r6) ++ [(qa1, .inl (cI, 30, .inl (fun _ => 0)))]) ++ [(qa2, .inl (cI, 10, .inl (fun _ => 0)))]) ++ [(qa3, .inl (cI, 10, .inl (fun _ => 0)))]) := hD
  refine hR _ ls H locs (fun j => List.getD [h0, qa1, qa2, qa3, (Ao1 0), (Ao1 1), (Ao1 2), (Ao1 3), (Ao1 4), (Ao1 5), (Ao1 6), (Ao2 0), (Ao2 1), (Ao2 2), (Ao2 3), (Ao2 4), (Ao2 5), (Ao2 6), (Ao2 7), (Ao2 8), (Ao2 9), (Ao2 10), (Ao2 11), (Ao2 12), (Ao2 13), (Ao2 14), (Ao3 0), (Ao3 1), (Ao3 2), (Ao3 3), (Ao3 4), (Ao3 5), (Ao3 6), (Ao3 7), (Ao3 8), (Ao3 9), (Ao3 10), (Ao3 11), (Ao3 12), (Ao3 13), (Ao3 14), (Ao4 0), (Ao4 1), (Ao4 2), (Ao5 0), (Ao5 1), (Ao5 2), (Ao5 3), (Ao6 0), (Ao6 1), (Ao6 2), (Ao6 3), (Ao6 4)] j 0) _ rfl (congrArg (fun q => wX5 cI cZ (fun j => List.getD [h0, qa1, qa2, qa3, (Ao1 0), (Ao1 1), (Ao1 2), (Ao1 3), (Ao1 4), (Ao1 5), (Ao1 6), (Ao2 0), (Ao2 1), (Ao2 2), (Ao2 3), (Ao2 4), (Ao2 5), (Ao2 6), (Ao2 7), (Ao2 8), (Ao2 9), (Ao2 10), (Ao2 11), (Ao2 12), (Ao2 13), (Ao2 14), (Ao3 0), (Ao3 1), (Ao3 2), (Ao3 3), (Ao3 4), (Ao3 5), (Ao3 6), (Ao3 7), (Ao3 8), (Ao3 9), (Ao3 10), (Ao3 11), (Ao3 12), (Ao3 13), (Ao3 14), (Ao4 0), (Ao4 1), (Ao4 2), (Ao5 0), (Ao5 1), (Ao5 2), (Ao5 3), (Ao6 0), (Ao6 1), (Ao6 2), (Ao6 3), (Ao6 4)] j 0) q.1 q.2.1 q.2.2.1 q.2.2.2.1 q.2.2.2.2.1 q.2.2.2.2.2.1 q.2.2.2.2.2.2) (Option.some.inj hf)) dX5_init_104 ?_ ?_ hS
  · exact hP.sub [0, 50, 51, 52, 1, 2, 3, 4, 5, 6, 7, 8, 9, 10, 11, 12, 13, 14, 15, 16, 17, 18, 19, 20, 21, 22, 23, 24, 25, 26, 27, 28, 29, 30, 31, 32, 33, 34, 35, 36, 37, 38, 39, 40, 41, 42, 43, 44, 45, 46, 47, 48, 49] rfl
  · exact hD.sub [0, 50, 51, 52, 1, 2, 3, 4, 5, 6, 7, 8, 9, 10, 11, 12, 13, 14, 15, 16, 17, 18, 19, 20, 21, 22, 23, 24, 25, 26, 27, 28, 29, 30, 31, 32, 33, 34, 35, 36, 37, 38, 39, 40, 41, 42, 43, 44, 45, 46, 47, 48, 49] (by decide) rfl

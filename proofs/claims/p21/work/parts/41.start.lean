theorem cnt_nn {f : Nat → Int32} (h : ∀ x, x < 30 → f x = nn) : cnt f 30 = 0 := cnt_bij 0 f (fun _ => 0) (fun i hi => by omega) (fun i j hi => by omega) (fun o ho hh => absurd (h o ho) hh)
theorem init_rel : ∃ (cs cw ct cu cl cb cp mm : St), fX5_init = some (cs, cw, ct, cu, cl, cb, cp) ∧ fX6_init = some mm ∧ Rel 0 cs cw ct cl cb mm := by
  obtain ⟨cl, l1, l2, l3⟩ := i0_loop st0
  obtain ⟨cb, b1, b2, b3⟩ := i2_loop st0
  obtain ⟨ct, t1, t2, t3⟩ := i3_loop st0
  obtain ⟨wa, wa1, wa2, wa3⟩ := i4a_loop st0
  obtain ⟨wb, wb1, wb2, wb3⟩ := i4b_loop wa
  obtain ⟨cw, wc1, wc2, wc3⟩ := i4c_loop wb
  obtain ⟨ma, ma1, ma2, ma3⟩ := i6a_loop (iS st0 1 (I 20))
  obtain ⟨mm, mb1, mb2, mb3⟩ := i6b_loop ma
  have e0 : fX0_init = some cl := l3
  have e2 : fX2_init = some cb := b3
  have e3 : fX3_init = some ct := t3
  have e4 : fX4_init = some cw := wa3.trans (wb3.trans wc3)
  have e6 : fX6_init = some mm := ma3.trans mb3
  have cw0 : ∀ x, x < 30 → cw 0 x = nn ∧ cw 2 x = nn := fun x hx => by
    rw [wc1 0 (by omega), wb1 0 (by omega), wc1 2 (by omega), wb1 2 (by omega)]; exact wa2 x hx
  have cw4 : ∀ x, x < 10 → cw 4 x = nn := fun x hx => by rw [wc1 4 (by omega)]; exact wb2 x hx
  have cwz : ∀ q, q ≠ 0 → q ≠ 2 → q ≠ 4 → q ≠ 5 → cw q = st0 q := fun q a b c d => by rw [wc1 q d, wb1 q c, wa1 q a b]
  have mz : ∀ q, q ≠ 1 → q ≠ 2 → q ≠ 16 → q ≠ 19 → q ≠ 3 → q ≠ 5 → q ≠ 8 → q ≠ 9 → mm q = st0 q := fun q a b c d e f g i => by
    rw [mb1 q e f g i, ma1 q b c d]
    simp only [iS_at, a, ↓reduceIte]
  have m6 : ∀ x, x < 6 → mm 2 x = I 8 ∧ mm 16 x = I x ∧ mm 19 x = nn := fun x hx => by
    rw [mb1 2 (by omega) (by omega) (by omega) (by omega), mb1 16 (by omega) (by omega) (by omega) (by omega), mb1 19 (by omega) (by omega) (by omega) (by omega)]; exact ma2 x hx
  have m1 : mm 1 0 = I 20 := by
    rw [mb1 1 (by omega) (by omega) (by omega) (by omega), ma1 1 (by omega) (by omega) (by omega)]; rfl
  have Z : ∀ q x, st0 q x = I 0 := fun _ _ => rfl
  have mq0 : mm 0 = st0 0 := mz 0 (by omega) (by omega) (by omega) (by omega) (by omega) (by omega) (by omega) (by omega)
  have mq4 : mm 4 = st0 4 := mz 4 (by omega) (by omega) (by omega) (by omega) (by omega) (by omega) (by omega) (by omega)
  have mq6 : mm 6 = st0 6 := mz 6 (by omega) (by omega) (by omega) (by omega) (by omega) (by omega) (by omega) (by omega)
  have mq7 : mm 7 = st0 7 := mz 7 (by omega) (by omega) (by omega) (by omega) (by omega) (by omega) (by omega) (by omega)
  have mq10 : mm 10 = st0 10 := mz 10 (by omega) (by omega) (by omega) (by omega) (by omega) (by omega) (by omega) (by omega)
  have mq11 : mm 11 = st0 11 := mz 11 (by omega) (by omega) (by omega) (by omega) (by omega) (by omega) (by omega) (by omega)
  have mq12 : mm 12 = st0 12 := mz 12 (by omega) (by omega) (by omega) (by omega) (by omega) (by omega) (by omega) (by omega)
  have mq13 : mm 13 = st0 13 := mz 13 (by omega) (by omega) (by omega) (by omega) (by omega) (by omega) (by omega) (by omega)
  have mq14 : mm 14 = st0 14 := mz 14 (by omega) (by omega) (by omega) (by omega) (by omega) (by omega) (by omega) (by omega)
  have mq15 : mm 15 = st0 15 := mz 15 (by omega) (by omega) (by omega) (by omega) (by omega) (by omega) (by omega) (by omega)
  have mq17 : mm 17 = st0 17 := mz 17 (by omega) (by omega) (by omega) (by omega) (by omega) (by omega) (by omega) (by omega)
  have mq18 : mm 18 = st0 18 := mz 18 (by omega) (by omega) (by omega) (by omega) (by omega) (by omega) (by omega) (by omega)
  have mq24 : mm 24 = st0 24 := mz 24 (by omega) (by omega) (by omega) (by omega) (by omega) (by omega) (by omega) (by omega)
  have mq29 : mm 29 = st0 29 := mz 29 (by omega) (by omega) (by omega) (by omega) (by omega) (by omega) (by omega) (by omega)
  have mq30 : mm 30 = st0 30 := mz 30 (by omega) (by omega) (by omega) (by omega) (by omega) (by omega) (by omega) (by omega)
  refine ⟨iS st0 9 (I 20), cw, ct, ct, cl, cb, st0, mm, ?_, e6, ?_, ?_, ?_, ?_, ?_, ?_, ?_, ?_, (fun k _ _ => by rw [mq14]; rfl), ?_, ?_, ?_, ?_, ?_, ?_, ?_, ?_, ?_, ?_⟩
  · simp only [fX5_init, fX1_init, e0, e2, e3, e4, bd1]; rfl
  · intro j hj; exact ⟨8, by omega, (m6 j hj).1⟩
  · intro k hk; exact Or.inl (mb2 k hk).1
  · exact ⟨fun k hk => Or.inl (mb2 k hk).2.1, fun j k hj hk _ hh => absurd (mb2 j hj).2.1 hh⟩
  · intro k hk; rw [mq6]; exact ⟨0, by omega, Z _ _⟩
  · intro k hk; rw [mq7]; exact ⟨⟨0, by omega, Z _ _⟩, ⟨7, by omega, by omega, (mb2 k hk).2.2.1⟩, ⟨1, by omega, by omega, (mb2 k hk).2.2.2⟩⟩
  · rw [mq0]; exact ⟨by omega, ⟨0, by omega, Z _ _⟩, ⟨20, by omega, by omega, m1⟩⟩
  · intro j hj; rw [mq17, mq18]; exact ⟨⟨j, hj, (m6 j hj).2.1⟩, ⟨0, 0, by omega, by omega, Z _ _, Z _ _⟩, Or.inl (m6 j hj).2.2⟩
  · intro k hk; rw [mq10, mq11, mq12, mq13, mq14]
    exact ⟨⟨0, by omega, Z _ _⟩, ⟨0, by omega, Z _ _⟩, ⟨0, by omega, Z _ _⟩, ⟨0, by omega, Z _ _⟩, fun _ => Z _ _, fun e => False.elim (by rw [Z, I10] at e; exact e), fun _ => Z _ _, fun e => False.elim (by rw [Z, I10] at e; exact e), 0, by omega, Z _ _, fun _ _ => by omega⟩
  · intro j hj; rw [wc2 j hj, (m6 j hj).1]
  · intro k hk; rw [mq4, mq6, (cw0 k hk).1, (cw0 k hk).2, (mb2 k hk).1, (mb2 k hk).2.1, cwz 1 (by omega) (by omega) (by omega) (by omega), cwz 3 (by omega) (by omega) (by omega) (by omega)]; exact ⟨rfl, rfl, rfl, rfl⟩
  · intro g hg; exact Or.inl ⟨cw4 g hg, fun k hk => by rw [(mb2 k hk).2.1, ne_eq, nn_I (by omega)]; exact fun h => h⟩
  · rw [cwz 6 (by omega) (by omega) (by omega) (by omega), cwz 7 (by omega) (by omega) (by omega) (by omega)]
    refine ⟨⟨0, Z _ _, cnt_nn fun x hx => (mb2 x hx).1⟩, ?_⟩
    rw [cnt_nn fun x hx => (mb2 x hx).2.1]; exact Z _ _
  · intro k hk; rw [mq7, (l2 k hk).1, (l2 k hk).2, (mb2 k hk).2.2.2]
    refine ⟨rfl, fun _ a a1 a3 ea => ?_, fun e => False.elim (by rw [Z, I10] at e; exact e)⟩
    rw [I_inj (by omega) (by omega)] at ea
    subst ea; rfl
  · intro j hj; rw [mq17, mq18, (t2 j hj).1, (t2 j hj).2, (m6 j hj).2.1, (m6 j hj).2.2, t1 2 (by omega) (by omega), t1 3 (by omega) (by omega)]
    exact ⟨rfl, rfl, rfl, fun _ => rfl, fun p hp e => False.elim (by rw [nn_I (by omega)] at e; exact e)⟩
  · intro k hk; rw [mq10, mq11, mq12, mq13, mq14, t1 5 (by omega) (by omega), t1 6 (by omega) (by omega), t1 7 (by omega) (by omega), t1 8 (by omega) (by omega)]
    exact ⟨rfl, rfl, fun _ => Z _ _, fun e => False.elim (by rw [Z, I10] at e; exact e), fun e => False.elim (by rw [Z, I10] at e; exact e), fun _ => Z _ _, fun _ => Z _ _, fun _ _ => rfl⟩
  · rw [mq0, t1 9 (by omega) (by omega)]; exact ⟨rfl, m1.symm⟩
  · rw [mq15, mq29, mq30]; exact ⟨fun _ _ => rfl, fun _ _ => ⟨rfl, rfl⟩⟩
  · intro s hs
    rw [mq24, b1 2 (by omega)]
    exact ⟨0, fun _ => 0, ⟨by omega, Z _ _, fun i hi => by omega, fun i j hi => by omega, fun o ho hh => absurd (b2 (30 * s + o) (by omega)) hh⟩, Z _ _⟩

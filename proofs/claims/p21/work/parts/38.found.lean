theorem pF_self (σ : St) (k : Nat) : pF σ k (σ k) = σ := by
  funext j
  rw [pF_at]
  by_cases d : j = k
  · rw [if_pos d, d]
  · rw [if_neg d]
theorem ways_init (cw ct mm : St) {s : Nat} (hs : s < 6) : ∃ f g, Way 0 f g ∧ f s ≠ nn ∧ fX3_measureWays_L2 cw (I s) ct (I 0) = fX3_measureWays_J30 (pF ct 15 f) cw ∧ fX6_found_L23 (I s) mm (I 0) = fX6_found_J53 (pF mm 38 g) (I s) := by
  obtain ⟨Q, eQ⟩ : ∃ Q : Nat → (Nat → Int32) × (Nat → Int32) → Prop, Q = fun t x => ∀ j, j < t → (j ≠ s ∧ x.1 j = nn ∧ x.2 j = I 1000000) ∨ (j = s ∧ x.1 j = I 0 ∧ x.2 j = I 0) := ⟨_, rfl⟩
  obtain ⟨x, hQ, h1, h2⟩ := loop_two (ι := Unit) (ι' := Unit) (step := fun _ k a => fX3_measureWays_S2 k cw (I s) (a.1) (a.2)) (step' := fun _ k a => fX6_found_S23 k (I s) (a.1) (a.2)) (fun t (x : (Nat → Int32) × (Nat → Int32)) => (pF ct 15 x.1, I t)) (fun t x => (pF mm 38 x.2, I t)) 6 Q (fun _ x => fX3_measureWays_J30 (pF ct 15 x.1) cw) (fun _ x => fX6_found_J53 (pF mm 38 x.2) (I s))
    (by
      intro t x ht hQ
      rw [eQ] at hQ
      by_cases d : t = s
      · refine ⟨(upd x.1 t (I 0), upd x.2 t (I 0)), ?_, fun _ rec => ?_, fun _ rec => ?_⟩
        · rw [eQ]
          intro j hj
          dsimp only
          rw [upd_at, upd_at]
          by_cases e : j = t
          · rw [if_pos e, if_pos e]; exact Or.inr ⟨by omega, rfl, rfl⟩
          · rw [if_neg e, if_neg e]; exact hQ j (by omega)
        · subst d
          simp (disch := omega) only [fX3_measureWays_S2, fX3_measureWays_J23, aS_pF, ck1, bd1, bx1, bx2, aS_at, iS_at, upd_at, ↓reduceIte, Nat.reduceEqDiff, Nat.reduceAdd, Nat.reduceMul, Nat.reduceSub, Nat.reduceDiv, Nat.reduceLT, Nat.reduceLeDiff, Nat.reduceBEq, ne_eq, not_true_eq_false, not_false_eq_true, reduceCtorEq, if_true, if_false, eq_self, Nat.add_zero, Nat.zero_add, lit, lit_nn, I_nat, I_add, I_mul, I_sub, I_div, inb_t, I_ne, I_nn, nn_I, nn_lt, nn_le, lt_nn, le_nn, I_t, I_f, I_lt_t, I_lt_f, isb_0, isb_1, vz_0, vz_1, nn_nat]
        · subst d
          simp (disch := omega) only [fX6_found_S23, fX6_found_J46, aS_pF, ck1, bd1, bx1, bx2, aS_at, iS_at, upd_at, ↓reduceIte, Nat.reduceEqDiff, Nat.reduceAdd, Nat.reduceMul, Nat.reduceSub, Nat.reduceDiv, Nat.reduceLT, Nat.reduceLeDiff, Nat.reduceBEq, ne_eq, not_true_eq_false, not_false_eq_true, reduceCtorEq, if_true, if_false, eq_self, Nat.add_zero, Nat.zero_add, lit, lit_nn, I_nat, I_add, I_mul, I_sub, I_div, inb_t, I_ne, I_nn, nn_I, nn_lt, nn_le, lt_nn, le_nn, I_t, I_f, I_lt_t, I_lt_f, isb_0, isb_1, vz_0, vz_1, nn_nat]
      · refine ⟨(upd x.1 t nn, upd x.2 t (I 1000000)), ?_, fun _ rec => ?_, fun _ rec => ?_⟩
        · rw [eQ]
          intro j hj
          dsimp only
          rw [upd_at, upd_at]
          by_cases e : j = t
          · rw [if_pos e, if_pos e]; exact Or.inl ⟨by omega, rfl, rfl⟩
          · rw [if_neg e, if_neg e]; exact hQ j (by omega)
        · simp (disch := omega) only [fX3_measureWays_S2, fX3_measureWays_J23, aS_pF, ck1, bd1, bx1, bx2, aS_at, iS_at, upd_at, ↓reduceIte, Nat.reduceEqDiff, Nat.reduceAdd, Nat.reduceMul, Nat.reduceSub, Nat.reduceDiv, Nat.reduceLT, Nat.reduceLeDiff, Nat.reduceBEq, ne_eq, not_true_eq_false, not_false_eq_true, reduceCtorEq, if_true, if_false, eq_self, Nat.add_zero, Nat.zero_add, lit, lit_nn, I_nat, I_add, I_mul, I_sub, I_div, inb_t, I_ne, I_nn, nn_I, nn_lt, nn_le, lt_nn, le_nn, I_t, I_f, I_lt_t, I_lt_f, isb_0, isb_1, vz_0, vz_1, nn_nat, I_inj, d]
        · simp (disch := omega) only [fX6_found_S23, fX6_found_J46, aS_pF, ck1, bd1, bx1, bx2, aS_at, iS_at, upd_at, ↓reduceIte, Nat.reduceEqDiff, Nat.reduceAdd, Nat.reduceMul, Nat.reduceSub, Nat.reduceDiv, Nat.reduceLT, Nat.reduceLeDiff, Nat.reduceBEq, ne_eq, not_true_eq_false, not_false_eq_true, reduceCtorEq, if_true, if_false, eq_self, Nat.add_zero, Nat.zero_add, lit, lit_nn, I_nat, I_add, I_mul, I_sub, I_div, inb_t, I_ne, I_nn, nn_I, nn_lt, nn_le, lt_nn, le_nn, I_t, I_f, I_lt_t, I_lt_f, isb_0, isb_1, vz_0, vz_1, nn_nat, I_inj, d])
    (by
      intro x _
      refine ⟨fun _ rec => ?_, fun _ rec => ?_⟩
      · simp (disch := omega) only [fX3_measureWays_S2, ck1, bd1, bx1, bx2, aS_at, iS_at, upd_at, ↓reduceIte, Nat.reduceEqDiff, Nat.reduceAdd, Nat.reduceMul, Nat.reduceSub, Nat.reduceDiv, Nat.reduceLT, Nat.reduceLeDiff, Nat.reduceBEq, ne_eq, not_true_eq_false, not_false_eq_true, reduceCtorEq, if_true, if_false, eq_self, Nat.add_zero, Nat.zero_add, lit, lit_nn, I_nat, I_add, I_mul, I_sub, I_div, inb_t, I_ne, I_nn, nn_I, nn_lt, nn_le, lt_nn, le_nn, I_t, I_f, I_lt_t, I_lt_f, isb_0, isb_1, vz_0, vz_1, nn_nat]
      · simp (disch := omega) only [fX6_found_S23, ck1, bd1, bx1, bx2, aS_at, iS_at, upd_at, ↓reduceIte, Nat.reduceEqDiff, Nat.reduceAdd, Nat.reduceMul, Nat.reduceSub, Nat.reduceDiv, Nat.reduceLT, Nat.reduceLeDiff, Nat.reduceBEq, ne_eq, not_true_eq_false, not_false_eq_true, reduceCtorEq, if_true, if_false, eq_self, Nat.add_zero, Nat.zero_add, lit, lit_nn, I_nat, I_add, I_mul, I_sub, I_div, inb_t, I_ne, I_nn, nn_I, nn_lt, nn_le, lt_nn, le_nn, I_t, I_f, I_lt_t, I_lt_f, isb_0, isb_1, vz_0, vz_1, nn_nat])
    6 0 (ct 15, mm 38) 1000 (by omega) (by omega) (by rw [eQ]; intro j hj; omega)
  rw [eQ] at hQ
  refine ⟨x.1, x.2, fun j hj => ?_, ?_, ?_, ?_⟩
  · rcases hQ j hj with ⟨-, a, b⟩ | ⟨-, a, b⟩
    · exact Or.inl ⟨a, b⟩
    · exact Or.inr ⟨0, by omega, a, b⟩
  · rcases hQ s hs with ⟨a, -⟩ | ⟨-, a, -⟩
    · exact absurd rfl a
    · rw [a, ne_eq, I_nn (by omega)]; exact fun h => h
  · have := h1 ()
    dsimp only at this
    rw [pF_self] at this
    exact this
  · have := h2 ()
    dsimp only at this
    rw [pF_self] at this
    exact this
theorem ways_all {N : Nat} {cs cw ct cl cb mm : St} (h : Rel N cs cw ct cl cb mm) {f g : Nat → Int32} (hw : Way 0 f g) (x1 : Int32) {s : Nat} (hs : f s ≠ nn) : ∃ f' g', Way 18000 f' g' ∧ f' s ≠ nn ∧ fX3_measureWays_J30 (pF ct 15 f) cw = some (pF ct 15 f') ∧ fX6_found_J53 (pF mm 38 g) x1 = fX6_found_J148 (pF mm 38 g') x1 := by
  obtain ⟨x, hQ, h1, h2⟩ := loop_two (ι := Unit) (ι' := Unit) (step := fun _ k a => fX3_measureWays_S32 k cw (a.1) (a.2)) (step' := fun _ k a => fX6_found_S55 k x1 (a.1) (a.2)) (fun t (x : (Nat → Int32) × (Nat → Int32)) => (pF ct 15 x.1, I t)) (fun t x => (pF mm 38 x.2, I t)) 6 (fun t x => Way (3000 * t) x.1 x.2 ∧ x.1 s ≠ nn) (fun _ x => some (pF ct 15 x.1)) (fun _ x => fX6_found_J148 (pF mm 38 x.2) x1)
    (by
      intro t x ht ⟨hQ, hq⟩
      obtain ⟨y, ⟨hy, hy2⟩, g1, g2⟩ := loop_two (step := fun k32 k a => fX3_measureWays_S40 k32 k cw (I t) (a.1) (a.2)) (step' := fun k55 k a => fX6_found_S63 k55 k x1 (I t) (a.1) (a.2)) (fun t (x : (Nat → Int32) × (Nat → Int32)) => (pF ct 15 x.1, I t)) (fun t x => (pF mm 38 x.2, I t)) 30 (fun k y => Way (3000 * t + 100 * k) y.1 y.2 ∧ y.1 s ≠ nn) (fun k32 y => k32 (pF ct 15 y.1, I (t + 1))) (fun k55 y => k55 (pF mm 38 y.2, I (t + 1)))
        (by
          intro k y hk ⟨hy, hys⟩
          obtain ⟨f', g', a1, a2, a3, a4⟩ := way_step h hk (by omega) hy x1 (I t) (I t)
          exact ⟨(f', g'), ⟨a1, a2 s hys⟩, a3, a4⟩)
        (by
          intro y _
          refine ⟨fun _ rec => ?_, fun _ rec => ?_⟩
          · simp (disch := omega) only [fX3_measureWays_S40, ck1, bd1, bx1, bx2, aS_at, iS_at, upd_at, ↓reduceIte, Nat.reduceEqDiff, Nat.reduceAdd, Nat.reduceMul, Nat.reduceSub, Nat.reduceDiv, Nat.reduceLT, Nat.reduceLeDiff, Nat.reduceBEq, ne_eq, not_true_eq_false, not_false_eq_true, reduceCtorEq, if_true, if_false, eq_self, Nat.add_zero, Nat.zero_add, lit, lit_nn, I_nat, I_add, I_mul, I_sub, I_div, inb_t, I_ne, I_nn, nn_I, nn_lt, nn_le, lt_nn, le_nn, I_t, I_f, I_lt_t, I_lt_f, isb_0, isb_1, vz_0, vz_1, nn_nat]
          · simp (disch := omega) only [fX6_found_S63, ck1, bd1, bx1, bx2, aS_at, iS_at, upd_at, ↓reduceIte, Nat.reduceEqDiff, Nat.reduceAdd, Nat.reduceMul, Nat.reduceSub, Nat.reduceDiv, Nat.reduceLT, Nat.reduceLeDiff, Nat.reduceBEq, ne_eq, not_true_eq_false, not_false_eq_true, reduceCtorEq, if_true, if_false, eq_self, Nat.add_zero, Nat.zero_add, lit, lit_nn, I_nat, I_add, I_mul, I_sub, I_div, inb_t, I_ne, I_nn, nn_I, nn_lt, nn_le, lt_nn, le_nn, I_t, I_f, I_lt_t, I_lt_f, isb_0, isb_1, vz_0, vz_1, nn_nat])
        30 0 x 1000 (by omega) (by omega) ⟨hQ, hq⟩
      refine ⟨y, ⟨hy, hy2⟩, fun _ rec => ?_, fun _ rec => ?_⟩
      · rw [← g1 rec]
        simp (disch := omega) only [fX3_measureWays_S32, fX3_measureWays_L40, ck1, bd1, bx1, bx2, aS_at, iS_at, upd_at, ↓reduceIte, Nat.reduceEqDiff, Nat.reduceAdd, Nat.reduceMul, Nat.reduceSub, Nat.reduceDiv, Nat.reduceLT, Nat.reduceLeDiff, Nat.reduceBEq, ne_eq, not_true_eq_false, not_false_eq_true, reduceCtorEq, if_true, if_false, eq_self, Nat.add_zero, Nat.zero_add, lit, lit_nn, I_nat, I_add, I_mul, I_sub, I_div, inb_t, I_ne, I_nn, nn_I, nn_lt, nn_le, lt_nn, le_nn, I_t, I_f, I_lt_t, I_lt_f, isb_0, isb_1, vz_0, vz_1, nn_nat]
      · rw [← g2 rec]
        simp (disch := omega) only [fX6_found_S55, fX6_found_L63, ck1, bd1, bx1, bx2, aS_at, iS_at, upd_at, ↓reduceIte, Nat.reduceEqDiff, Nat.reduceAdd, Nat.reduceMul, Nat.reduceSub, Nat.reduceDiv, Nat.reduceLT, Nat.reduceLeDiff, Nat.reduceBEq, ne_eq, not_true_eq_false, not_false_eq_true, reduceCtorEq, if_true, if_false, eq_self, Nat.add_zero, Nat.zero_add, lit, lit_nn, I_nat, I_add, I_mul, I_sub, I_div, inb_t, I_ne, I_nn, nn_I, nn_lt, nn_le, lt_nn, le_nn, I_t, I_f, I_lt_t, I_lt_f, isb_0, isb_1, vz_0, vz_1, nn_nat])
    (by
      intro x _
      refine ⟨fun _ rec => ?_, fun _ rec => ?_⟩
      · simp (disch := omega) only [fX3_measureWays_S32, ck1, bd1, bx1, bx2, aS_at, iS_at, upd_at, ↓reduceIte, Nat.reduceEqDiff, Nat.reduceAdd, Nat.reduceMul, Nat.reduceSub, Nat.reduceDiv, Nat.reduceLT, Nat.reduceLeDiff, Nat.reduceBEq, ne_eq, not_true_eq_false, not_false_eq_true, reduceCtorEq, if_true, if_false, eq_self, Nat.add_zero, Nat.zero_add, lit, lit_nn, I_nat, I_add, I_mul, I_sub, I_div, inb_t, I_ne, I_nn, nn_I, nn_lt, nn_le, lt_nn, le_nn, I_t, I_f, I_lt_t, I_lt_f, isb_0, isb_1, vz_0, vz_1, nn_nat]
      · simp (disch := omega) only [fX6_found_S55, ck1, bd1, bx1, bx2, aS_at, iS_at, upd_at, ↓reduceIte, Nat.reduceEqDiff, Nat.reduceAdd, Nat.reduceMul, Nat.reduceSub, Nat.reduceDiv, Nat.reduceLT, Nat.reduceLeDiff, Nat.reduceBEq, ne_eq, not_true_eq_false, not_false_eq_true, reduceCtorEq, if_true, if_false, eq_self, Nat.add_zero, Nat.zero_add, lit, lit_nn, I_nat, I_add, I_mul, I_sub, I_div, inb_t, I_ne, I_nn, nn_I, nn_lt, nn_le, lt_nn, le_nn, I_t, I_f, I_lt_t, I_lt_f, isb_0, isb_1, vz_0, vz_1, nn_nat])
    6 0 (f, g) 1000 (by omega) (by omega) ⟨hw, hs⟩
  exact ⟨x.1, x.2, hQ.1, hQ.2, h1 (), h2 ()⟩

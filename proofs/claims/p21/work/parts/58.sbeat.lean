theorem sim_beat {N : Nat} {cs cw ct cl cb mm : St} (h : Rel N cs cw ct cl cb mm) (hN : N + 60 ≤ 100000) (x1 : Int32) :
    (∃ k r m', (k = 2) ∧ fX5_beat cs cw ct cb x1 = some (.inr k) ∧ fX6_beat mm x1 = some (r, m') ∧ m' 40 0 = I 1 ∧ Rel N cs cw ct cl cb m') ∨
    (∃ r cs' ct' cb' m', fX5_beat cs cw ct cb x1 = some (.inl (r, cs', ct', cb')) ∧ fX6_beat mm x1 = some (r, m') ∧ m' 40 0 = I 0 ∧ Rel (N + 60) cs' cw ct' cl cb' m') := by
  by_cases h2 : inD x1 1 31
  · right
    obtain ⟨q, hq1, hq2, rfl⟩ := id h2
    have hz : Rel N cs cw ct cl cb (iS mm 40 (I 0)) := h
    obtain ⟨s, ⟨u1, u2⟩, h3, h4⟩ := loop_two (ι := Unit) (ι' := Unit) (σ := St × St × St × St) (step := fun _ k a => fX5_beat_S9 k cw (I q) (a.1) (a.2.1) (a.2.2.1) (a.2.2.2)) (step' := fun _ k a => fX6_beat_S26 k (I q) (a.1) (a.2)) (fun t s => (s.1, s.2.1, s.2.2.1, I t)) (fun t s => (s.2.2.2, I t)) q (fun t s => Rel (N + 2 * t) s.1 cw s.2.1 cl s.2.2.1 s.2.2.2 ∧ Fb s.2.2.2 (iS mm 40 (I 0))) (fun _ s => some (.inl (s.2.1 9 0, s.1, s.2.1, s.2.2.1))) (fun _ s => some (s.2.2.2 0 0, s.2.2.2))
      (by
        intro t s ht ⟨u1, u2⟩
        obtain ⟨cs', ct', cb', mm', g1, g2, g3, g4, g5, -⟩ := beat_one u1 (by omega)
        refine ⟨(cs', ct', cb', mm'), ⟨g4.mono (by omega) (by omega), g5.trans u2⟩, fun _ rec => ?_, fun _ rec => ?_⟩
        · simp (disch := omega) only [fX5_beat_S9, ck1, bd1, bx1, bx2, aS_at, iS_at, upd_at, ↓reduceIte, Nat.reduceEqDiff, Nat.reduceAdd, Nat.reduceMul, Nat.reduceSub, Nat.reduceDiv, Nat.reduceLT, Nat.reduceLeDiff, Nat.reduceBEq, ne_eq, not_true_eq_false, not_false_eq_true, reduceCtorEq, if_true, if_false, eq_self, Nat.add_zero, Nat.zero_add, lit, lit_nn, I_nat, I_add, I_mul, I_sub, I_div, inb_t, I_ne, I_nn, nn_I, nn_lt, nn_le, lt_nn, le_nn, I_t, I_f, I_lt_t, I_lt_f, isb_0, isb_1, vz_0, vz_1, nn_nat, g2]
        · simp (disch := omega) only [fX6_beat_S26, ck1, bd1, bx1, bx2, aS_at, iS_at, upd_at, ↓reduceIte, Nat.reduceEqDiff, Nat.reduceAdd, Nat.reduceMul, Nat.reduceSub, Nat.reduceDiv, Nat.reduceLT, Nat.reduceLeDiff, Nat.reduceBEq, ne_eq, not_true_eq_false, not_false_eq_true, reduceCtorEq, if_true, if_false, eq_self, Nat.add_zero, Nat.zero_add, lit, lit_nn, I_nat, I_add, I_mul, I_sub, I_div, inb_t, I_ne, I_nn, nn_I, nn_lt, nn_le, lt_nn, le_nn, I_t, I_f, I_lt_t, I_lt_f, isb_0, isb_1, vz_0, vz_1, nn_nat, g3])
      (by
        intro s _
        refine ⟨fun _ rec => ?_, fun _ rec => ?_⟩
        · simp (disch := omega) only [fX5_beat_S9, ck1, bd1, bx1, bx2, aS_at, iS_at, upd_at, ↓reduceIte, Nat.reduceEqDiff, Nat.reduceAdd, Nat.reduceMul, Nat.reduceSub, Nat.reduceDiv, Nat.reduceLT, Nat.reduceLeDiff, Nat.reduceBEq, ne_eq, not_true_eq_false, not_false_eq_true, reduceCtorEq, if_true, if_false, eq_self, Nat.add_zero, Nat.zero_add, lit, lit_nn, I_nat, I_add, I_mul, I_sub, I_div, inb_t, I_ne, I_nn, nn_I, nn_lt, nn_le, lt_nn, le_nn, I_t, I_f, I_lt_t, I_lt_f, isb_0, isb_1, vz_0, vz_1, nn_nat]
        · simp (disch := omega) only [fX6_beat_S26, ck1, bd1, bx1, bx2, aS_at, iS_at, upd_at, ↓reduceIte, Nat.reduceEqDiff, Nat.reduceAdd, Nat.reduceMul, Nat.reduceSub, Nat.reduceDiv, Nat.reduceLT, Nat.reduceLeDiff, Nat.reduceBEq, ne_eq, not_true_eq_false, not_false_eq_true, reduceCtorEq, if_true, if_false, eq_self, Nat.add_zero, Nat.zero_add, lit, lit_nn, I_nat, I_add, I_mul, I_sub, I_div, inb_t, I_ne, I_nn, nn_I, nn_lt, nn_le, lt_nn, le_nn, I_t, I_f, I_lt_t, I_lt_f, isb_0, isb_1, vz_0, vz_1, nn_nat])
      q 0 (cs, ct, cb, iS mm 40 (I 0)) 1000 (by omega) (by omega) ⟨hz, Fb.refl _⟩
    have e9 : s.2.1 9 0 = s.2.2.2 0 0 := u1.2.2.2.2.2.2.2.2.2.2.2.2.2.2.2.2.1.1
    refine ⟨s.2.2.2 0 0, s.1, s.2.1, s.2.2.1, s.2.2.2, ?_, ?_, ?_, u1.mono (by omega) (by omega)⟩
    · unfold fX5_beat
      rw [lit, lit, needWithin_t (a := 1) (b := 30) (by omega) h2, bx1, lit, ← e9]
      exact h3 ()
    · have e : fX6_beat mm (I q) = fX6_beat_L26 (I q) (iS mm 40 (I 0)) (I 0) := by
        simp (disch := omega) only [fX6_beat, fX6_beat_J16, isIn_t (a := 1) (b := 30) (by omega) h2, fails_0, ck1, bd1, bx1, bx2, aS_at, iS_at, upd_at, ↓reduceIte, Nat.reduceEqDiff, Nat.reduceAdd, Nat.reduceMul, Nat.reduceSub, Nat.reduceDiv, Nat.reduceLT, Nat.reduceLeDiff, Nat.reduceBEq, ne_eq, not_true_eq_false, not_false_eq_true, reduceCtorEq, if_true, if_false, eq_self, Nat.add_zero, Nat.zero_add, lit, lit_nn, I_nat, I_add, I_mul, I_sub, I_div, inb_t, I_ne, I_nn, nn_I, nn_lt, nn_le, lt_nn, le_nn, I_t, I_f, I_lt_t, I_lt_f, isb_0, isb_1, vz_0, vz_1, nn_nat, I01]
      rw [e]
      exact h4 ()
    · rw [u2 40 (by omega)]
      rfl
  · refine Or.inl ⟨2, I 0, iS mm 40 (I 1), rfl, ?_, ?_, rfl, h.thrown _⟩
    · simp (disch := omega) only [fX5_beat, needWithin_f (a := 1) (b := 30) (by omega) (by omega) h2, ck1, bd1, bx1, bx2, aS_at, iS_at, upd_at, ↓reduceIte, Nat.reduceEqDiff, Nat.reduceAdd, Nat.reduceMul, Nat.reduceSub, Nat.reduceDiv, Nat.reduceLT, Nat.reduceLeDiff, Nat.reduceBEq, ne_eq, not_true_eq_false, not_false_eq_true, reduceCtorEq, if_true, if_false, eq_self, Nat.add_zero, Nat.zero_add, lit, lit_nn, I_nat, I_add, I_mul, I_sub, I_div, inb_t, I_ne, I_nn, nn_I, nn_lt, nn_le, lt_nn, le_nn, I_t, I_f, I_lt_t, I_lt_f, isb_0, isb_1, vz_0, vz_1, nn_nat]
    · simp (disch := omega) only [fX6_beat, fX6_beat_J16, isIn_f (a := 1) (b := 30) (by omega) (by omega) h2, fails_k, ck1, bd1, bx1, bx2, aS_at, iS_at, upd_at, ↓reduceIte, Nat.reduceEqDiff, Nat.reduceAdd, Nat.reduceMul, Nat.reduceSub, Nat.reduceDiv, Nat.reduceLT, Nat.reduceLeDiff, Nat.reduceBEq, ne_eq, not_true_eq_false, not_false_eq_true, reduceCtorEq, if_true, if_false, eq_self, Nat.add_zero, Nat.zero_add, lit, lit_nn, I_nat, I_add, I_mul, I_sub, I_div, inb_t, I_ne, I_nn, nn_I, nn_lt, nn_le, lt_nn, le_nn, I_t, I_f, I_lt_t, I_lt_f, isb_0, isb_1, vz_0, vz_1, nn_nat]

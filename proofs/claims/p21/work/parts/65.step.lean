/-! ===== one step of a frame ===== -/
theorem Qu.fm {n : Nat} {cp a b : St} (h : Qu n cp a) (f : ∀ q, 31 ≤ q → q ≤ 35 → b q = a q) : Qu n cp b := by
  obtain ⟨h1, h2, h3⟩ := h
  refine ⟨by rw [f 35 (by omega) (by omega)]; exact h1, h2, fun i hi h4 => ?_⟩
  have u := h3 i hi h4
  unfold Qr at u ⊢
  rw [f 31 (by omega) (by omega), f 32 (by omega) (by omega), f 33 (by omega) (by omega), f 34 (by omega) (by omega)]
  exact u
/-- by the known port, or as a flood -/
theorem way_both {N n : Nat} {cs cw ct cl cb cp mm : St} (h : Rel N cs cw ct cl cb mm) (hq : Qu n cp mm) (hn : n + 5 < 2400) {p i l to : Nat} (hp : p < 30) (ei : cp 0 i = I p) (hi : i < n) (h4 : i < 400) (h1 : 1 ≤ l) (hl : l ≤ 3) (ht : to ≤ 10) {y : Int32} (hy : y = nn ∨ ∃ q, q < 5 ∧ y = I q) : ∃ r n' cs' ct' cb' cp' mm', r ≤ 5 ∧ n ≤ n' ∧ n' ≤ n + 5 ∧ fX5_takeStep_J82 cs cw ct cl cb cp (I i) (I to) (I p) (I l) (I (p / 5)) y = some (I r, cs', ct', cb', cp') ∧ fX6_comes_J99 mm (I i) (I to) (I p) (I l) (mm 33 i) (I (p / 5)) (if y = nn then nn else I (5 * (p / 5)) + y) = some (I r, mm') ∧ Rel N cs' cw ct' cl cb' mm' ∧ Qu n' cp' mm' ∧ mm' 40 = mm 40 := by
  obtain ⟨r, n', cs', ct', cb', cp', mm', a1, a2, a3, a4, a5, a6, a7, a8⟩ := flood_both h hq hn hp ei hi h4 h1 hl ht
  rcases hy with rfl | ⟨q, hq5, rfl⟩
  · refine ⟨r, n', cs', ct', cb', cp', mm', a1, a2, a3, ?_, ?_, a6, a7, a8⟩
    · simp (disch := omega) only [fX5_takeStep_J82, fX5_takeStep_J108, a4, ck1, bd1, bx1, bx2, aS_at, iS_at, upd_at, ↓reduceIte, Nat.reduceEqDiff, Nat.reduceAdd, Nat.reduceMul, Nat.reduceSub, Nat.reduceDiv, Nat.reduceLT, Nat.reduceLeDiff, Nat.reduceBEq, ne_eq, not_true_eq_false, not_false_eq_true, reduceCtorEq, if_true, if_false, eq_self, Nat.add_zero, Nat.zero_add, lit, lit_nn, I_nat, I_add, I_mul, I_sub, I_div, inb_t, I_ne, I_nn, nn_I, nn_lt, nn_le, lt_nn, le_nn, I_t, I_f, I_lt_t, I_lt_f, isb_0, isb_1, vz_0, vz_1, nn_nat]
    · rw [if_pos rfl]
      simp (disch := omega) only [fX6_comes_J99, a5, ck1, bd1, bx1, bx2, aS_at, iS_at, upd_at, ↓reduceIte, Nat.reduceEqDiff, Nat.reduceAdd, Nat.reduceMul, Nat.reduceSub, Nat.reduceDiv, Nat.reduceLT, Nat.reduceLeDiff, Nat.reduceBEq, ne_eq, not_true_eq_false, not_false_eq_true, reduceCtorEq, if_true, if_false, eq_self, Nat.add_zero, Nat.zero_add, lit, lit_nn, I_nat, I_add, I_mul, I_sub, I_div, inb_t, I_ne, I_nn, nn_I, nn_lt, nn_le, lt_nn, le_nn, I_t, I_f, I_lt_t, I_lt_f, isb_0, isb_1, vz_0, vz_1, nn_nat]
  · have ne : ¬ I q = nn := by rw [I_nn (by omega)]; exact id
    rw [if_neg ne, I_add]
    obtain ⟨k, ek⟩ : ∃ k, k = 5 * (p / 5) + q := ⟨_, rfl⟩
    have hk : k < 30 := by omega
    have e2 : p / 5 * 5 + q = k := by omega
    rw [← ek]
    have e12 := (h.2.2.2.2.2.2.2.2.2.2.2.2.2.2.2.1 k hk).1
    rcases isI2 (h.2.2.2.2.2.2.2.1 k hk).2.1 with o | o
    · have c6 := e12.trans o
      refine ⟨r, n', cs', ct', cb', cp', mm', a1, a2, a3, ?_, ?_, a6, a7, a8⟩
      · simp (disch := omega) only [fX5_takeStep_J82, fX5_takeStep_J108, fX5_spotOf, a4, ck1, bd1, bx1, bx2, aS_at, iS_at, upd_at, ↓reduceIte, Nat.reduceEqDiff, Nat.reduceAdd, Nat.reduceMul, Nat.reduceSub, Nat.reduceDiv, Nat.reduceLT, Nat.reduceLeDiff, Nat.reduceBEq, ne_eq, not_true_eq_false, not_false_eq_true, reduceCtorEq, if_true, if_false, eq_self, Nat.add_zero, Nat.zero_add, lit, lit_nn, I_nat, I_add, I_mul, I_sub, I_div, inb_t, I_ne, I_nn, nn_I, nn_lt, nn_le, lt_nn, le_nn, I_t, I_f, I_lt_t, I_lt_f, isb_0, isb_1, vz_0, vz_1, nn_nat, e2, c6]
      · simp (disch := omega) only [fX6_comes_J99, a5, ck1, bd1, bx1, bx2, aS_at, iS_at, upd_at, ↓reduceIte, Nat.reduceEqDiff, Nat.reduceAdd, Nat.reduceMul, Nat.reduceSub, Nat.reduceDiv, Nat.reduceLT, Nat.reduceLeDiff, Nat.reduceBEq, ne_eq, not_true_eq_false, not_false_eq_true, reduceCtorEq, if_true, if_false, eq_self, Nat.add_zero, Nat.zero_add, lit, lit_nn, I_nat, I_add, I_mul, I_sub, I_div, inb_t, I_ne, I_nn, nn_I, nn_lt, nn_le, lt_nn, le_nn, I_t, I_f, I_lt_t, I_lt_f, isb_0, isb_1, vz_0, vz_1, nn_nat, o]
    · have c6 := e12.trans o
      by_cases z : k = p
      · refine ⟨0, n, cs, ct, cb, cp, mm, by omega, by omega, by omega, ?_, ?_, h, hq, rfl⟩
        · rw [z] at c6 e2
          simp (disch := omega) only [fX5_takeStep_J82, fX5_spotOf, ck1, bd1, bx1, bx2, aS_at, iS_at, upd_at, ↓reduceIte, Nat.reduceEqDiff, Nat.reduceAdd, Nat.reduceMul, Nat.reduceSub, Nat.reduceDiv, Nat.reduceLT, Nat.reduceLeDiff, Nat.reduceBEq, ne_eq, not_true_eq_false, not_false_eq_true, reduceCtorEq, if_true, if_false, eq_self, Nat.add_zero, Nat.zero_add, lit, lit_nn, I_nat, I_add, I_mul, I_sub, I_div, inb_t, I_ne, I_nn, nn_I, nn_lt, nn_le, lt_nn, le_nn, I_t, I_f, I_lt_t, I_lt_f, isb_0, isb_1, vz_0, vz_1, nn_nat, e2, c6, I01]
        · rw [z] at o ⊢
          simp (disch := omega) only [fX6_comes_J99, ck1, bd1, bx1, bx2, aS_at, iS_at, upd_at, ↓reduceIte, Nat.reduceEqDiff, Nat.reduceAdd, Nat.reduceMul, Nat.reduceSub, Nat.reduceDiv, Nat.reduceLT, Nat.reduceLeDiff, Nat.reduceBEq, ne_eq, not_true_eq_false, not_false_eq_true, reduceCtorEq, if_true, if_false, eq_self, Nat.add_zero, Nat.zero_add, lit, lit_nn, I_nat, I_add, I_mul, I_sub, I_div, inb_t, I_ne, I_nn, nn_I, nn_lt, nn_le, lt_nn, le_nn, I_t, I_f, I_lt_t, I_lt_f, isb_0, isb_1, vz_0, vz_1, nn_nat, o, I01]
      · obtain ⟨r, n', cs', cp', mm', b1, b2, b3, b4, b5, b6, b7, b8⟩ := out_both h hq (by omega) hk hi h4 h1 hl ht
        refine ⟨r, n', cs', ct, cb, cp', mm', by omega, b2, by omega, ?_, ?_, b6, b7, b8.1 40 (by omega)⟩
        · simp (disch := omega) only [fX5_takeStep_J82, fX5_spotOf, b4, ck1, bd1, bx1, bx2, aS_at, iS_at, upd_at, ↓reduceIte, Nat.reduceEqDiff, Nat.reduceAdd, Nat.reduceMul, Nat.reduceSub, Nat.reduceDiv, Nat.reduceLT, Nat.reduceLeDiff, Nat.reduceBEq, ne_eq, not_true_eq_false, not_false_eq_true, reduceCtorEq, if_true, if_false, eq_self, Nat.add_zero, Nat.zero_add, lit, lit_nn, I_nat, I_add, I_mul, I_sub, I_div, inb_t, I_ne, I_nn, nn_I, nn_lt, nn_le, lt_nn, le_nn, I_t, I_f, I_lt_t, I_lt_f, isb_0, isb_1, vz_0, vz_1, nn_nat, e2, c6, I_inj, z, I01]
        · simp (disch := omega) only [fX6_comes_J99, ck1, bd1, bx1, bx2, aS_at, iS_at, upd_at, ↓reduceIte, Nat.reduceEqDiff, Nat.reduceAdd, Nat.reduceMul, Nat.reduceSub, Nat.reduceDiv, Nat.reduceLT, Nat.reduceLeDiff, Nat.reduceBEq, ne_eq, not_true_eq_false, not_false_eq_true, reduceCtorEq, if_true, if_false, eq_self, Nat.add_zero, Nat.zero_add, lit, lit_nn, I_nat, I_add, I_mul, I_sub, I_div, inb_t, I_ne, I_nn, nn_I, nn_lt, nn_le, lt_nn, le_nn, I_t, I_f, I_lt_t, I_lt_f, isb_0, isb_1, vz_0, vz_1, nn_nat, o, b5, I_inj, z, I01]
theorem step_both {N n : Nat} {cs cw ct cl cb cp mm : St} (h : Rel N cs cw ct cl cb mm) (hq : Qu n cp mm) (hn : n + 5 < 2400) {i g to : Nat} (hi : i < n) (h4 : i < 400) (hg : g < 10) (ht : to ≤ 10) : ∃ r n' cs' ct' cb' cp' mm', r ≤ 5 ∧ n ≤ n' ∧ n' ≤ n + 5 ∧ fX5_takeStep cs cw ct cl cb cp (I i) (I g) (I to) = some (I r, cs', ct', cb', cp') ∧ fX6_comes mm (I i) (I g) (I to) = some (I r, mm') ∧ Rel N cs' cw ct' cl cb' mm' ∧ Qu n' cp' mm' ∧ mm' 40 = mm 40 := by
  obtain ⟨p, t, e, o, hp, ht3, he3, ho, b1, b2, b3, b4, b5, b6, b7, b8⟩ := hq.2.2 i hi h4
  obtain ⟨l, hl, l1, l2⟩ := lane_both h hp ht3
  by_cases z : l = 0
  · subst z
    refine ⟨0, n, cs, ct, cb, cp, mm, by omega, by omega, by omega, ?_, ?_, h, hq, rfl⟩
    · simp (disch := omega) only [fX5_takeStep, b1, b3, l1, ck1, bd1, bx1, bx2, aS_at, iS_at, upd_at, ↓reduceIte, Nat.reduceEqDiff, Nat.reduceAdd, Nat.reduceMul, Nat.reduceSub, Nat.reduceDiv, Nat.reduceLT, Nat.reduceLeDiff, Nat.reduceBEq, ne_eq, not_true_eq_false, not_false_eq_true, reduceCtorEq, if_true, if_false, eq_self, Nat.add_zero, Nat.zero_add, lit, lit_nn, I_nat, I_add, I_mul, I_sub, I_div, inb_t, I_ne, I_nn, nn_I, nn_lt, nn_le, lt_nn, le_nn, I_t, I_f, I_lt_t, I_lt_f, isb_0, isb_1, vz_0, vz_1, nn_nat]
    · simp (disch := omega) only [fX6_comes, b2, b4, l2, ck1, bd1, bx1, bx2, aS_at, iS_at, upd_at, ↓reduceIte, Nat.reduceEqDiff, Nat.reduceAdd, Nat.reduceMul, Nat.reduceSub, Nat.reduceDiv, Nat.reduceLT, Nat.reduceLeDiff, Nat.reduceBEq, ne_eq, not_true_eq_false, not_false_eq_true, reduceCtorEq, if_true, if_false, eq_self, Nat.add_zero, Nat.zero_add, lit, lit_nn, I_nat, I_add, I_mul, I_sub, I_div, inb_t, I_ne, I_nn, nn_I, nn_lt, nn_le, lt_nn, le_nn, I_t, I_f, I_lt_t, I_lt_f, isb_0, isb_1, vz_0, vz_1, nn_nat]
  · obtain ⟨o1, eo⟩ : ∃ o1, o1 = (l - 1) * 10 + g := ⟨_, rfl⟩
    have ho1 : o1 < 30 := by omega
    have eq1 : o1 / 10 + 1 = l := by omega
    have eq2 : o1 % 10 = g := by omega
    obtain ⟨c', m', g1, g2, g3, g4⟩ := hear_both h.2.2.2.2.2.2.2.2.2.2.2.2.2.2.2.2.2.2 hp ho1
    rw [eq1, eq2] at g1 g2
    have hr : Rel N cs cw ct cl c' m' := h.tab g3 g4
    have hq2 : Qu n cp m' := hq.fm fun q y1 y2 => g3 q (by omega)
    have e33 : m' 33 i = mm 33 i := by rw [g3 33 (by omega)]
    have ec : ct 9 0 = mm 0 0 := h.2.2.2.2.2.2.2.2.2.2.2.2.2.2.2.2.1.1
    rw [← ec] at g1
    by_cases zt : to = 10
    · obtain ⟨r, n', cs', ct', cb', cp', mm', a1, a2, a3, a4, a5, a6, a7, a8⟩ := way_both hr hq2 hn hp b1 hi h4 (show 1 ≤ l by omega) hl ht (Or.inl rfl)
      rw [if_pos rfl] at a5
      refine ⟨r, n', cs', ct', cb', cp', mm', a1, a2, a3, ?_, ?_, a6, a7, by rw [a8, g3 40 (by omega)]⟩
      · rw [← a4, zt]
        simp (disch := omega) only [fX5_takeStep, b1, b3, l1, g1, ck1, bd1, bx1, bx2, aS_at, iS_at, upd_at, ↓reduceIte, Nat.reduceEqDiff, Nat.reduceAdd, Nat.reduceMul, Nat.reduceSub, Nat.reduceDiv, Nat.reduceLT, Nat.reduceLeDiff, Nat.reduceBEq, ne_eq, not_true_eq_false, not_false_eq_true, reduceCtorEq, if_true, if_false, eq_self, Nat.add_zero, Nat.zero_add, lit, lit_nn, I_nat, I_add, I_mul, I_sub, I_div, inb_t, I_ne, I_nn, nn_I, nn_lt, nn_le, lt_nn, le_nn, I_t, I_f, I_lt_t, I_lt_f, isb_0, isb_1, vz_0, vz_1, nn_nat]
      · rw [← a5, e33, zt]
        simp (disch := omega) only [fX6_comes, fX6_comes_J75, b2, b4, l2, g2, ck1, bd1, bx1, bx2, aS_at, iS_at, upd_at, ↓reduceIte, Nat.reduceEqDiff, Nat.reduceAdd, Nat.reduceMul, Nat.reduceSub, Nat.reduceDiv, Nat.reduceLT, Nat.reduceLeDiff, Nat.reduceBEq, ne_eq, not_true_eq_false, not_false_eq_true, reduceCtorEq, if_true, if_false, eq_self, Nat.add_zero, Nat.zero_add, lit, lit_nn, I_nat, I_add, I_mul, I_sub, I_div, inb_t, I_ne, I_nn, nn_I, nn_lt, nn_le, lt_nn, le_nn, I_t, I_f, I_lt_t, I_lt_f, isb_0, isb_1, vz_0, vz_1, nn_nat]
    · obtain ⟨o2, eo2⟩ : ∃ o2, o2 = (l - 1) * 10 + to := ⟨_, rfl⟩
      have ho2 : o2 < 30 := by omega
      have eq3 : o2 / 10 + 1 = l := by omega
      have eq4 : o2 % 10 = to := by omega
      obtain ⟨w1, w2⟩ := port_ent g4 (show p / 5 < 6 by omega) ho2
      rw [eq3, eq4] at w1 w2
      rcases w2 with ⟨w3, w4⟩ | ⟨x, q, hx, hq5, w3, w4, w5⟩
      · obtain ⟨r, n', cs', ct', cb', cp', mm', a1, a2, a3, a4, a5, a6, a7, a8⟩ := way_both hr hq2 hn hp b1 hi h4 (show 1 ≤ l by omega) hl ht (Or.inl rfl)
        rw [if_pos rfl] at a5
        rw [w3] at w1
        refine ⟨r, n', cs', ct', cb', cp', mm', a1, a2, a3, ?_, ?_, a6, a7, by rw [a8, g3 40 (by omega)]⟩
        · rw [← a4]
          simp (disch := omega) only [fX5_takeStep, b1, b3, l1, g1, w1, ck1, bd1, bx1, bx2, aS_at, iS_at, upd_at, ↓reduceIte, Nat.reduceEqDiff, Nat.reduceAdd, Nat.reduceMul, Nat.reduceSub, Nat.reduceDiv, Nat.reduceLT, Nat.reduceLeDiff, Nat.reduceBEq, ne_eq, not_true_eq_false, not_false_eq_true, reduceCtorEq, if_true, if_false, eq_self, Nat.add_zero, Nat.zero_add, lit, lit_nn, I_nat, I_add, I_mul, I_sub, I_div, inb_t, I_ne, I_nn, nn_I, nn_lt, nn_le, lt_nn, le_nn, I_t, I_f, I_lt_t, I_lt_f, isb_0, isb_1, vz_0, vz_1, nn_nat]
        · rw [← a5, e33]
          simp (disch := omega) only [fX6_comes, fX6_comes_J75, b2, b4, l2, g2, w4, ck1, bd1, bx1, bx2, aS_at, iS_at, upd_at, ↓reduceIte, Nat.reduceEqDiff, Nat.reduceAdd, Nat.reduceMul, Nat.reduceSub, Nat.reduceDiv, Nat.reduceLT, Nat.reduceLeDiff, Nat.reduceBEq, ne_eq, not_true_eq_false, not_false_eq_true, reduceCtorEq, if_true, if_false, eq_self, Nat.add_zero, Nat.zero_add, lit, lit_nn, I_nat, I_add, I_mul, I_sub, I_div, inb_t, I_ne, I_nn, nn_I, nn_lt, nn_le, lt_nn, le_nn, I_t, I_f, I_lt_t, I_lt_f, isb_0, isb_1, vz_0, vz_1, nn_nat]
      · obtain ⟨r, n', cs', ct', cb', cp', mm', a1, a2, a3, a4, a5, a6, a7, a8⟩ := way_both hr hq2 hn hp b1 hi h4 (show 1 ≤ l by omega) hl ht (y := I q) (Or.inr ⟨q, hq5, rfl⟩)
        rw [if_neg (by rw [I_nn (by omega)]; exact id), I_add] at a5
        rw [w5] at w1
        refine ⟨r, n', cs', ct', cb', cp', mm', a1, a2, a3, ?_, ?_, a6, a7, by rw [a8, g3 40 (by omega)]⟩
        · rw [← a4]
          simp (disch := omega) only [fX5_takeStep, b1, b3, l1, g1, w1, ck1, bd1, bx1, bx2, aS_at, iS_at, upd_at, ↓reduceIte, Nat.reduceEqDiff, Nat.reduceAdd, Nat.reduceMul, Nat.reduceSub, Nat.reduceDiv, Nat.reduceLT, Nat.reduceLeDiff, Nat.reduceBEq, ne_eq, not_true_eq_false, not_false_eq_true, reduceCtorEq, if_true, if_false, eq_self, Nat.add_zero, Nat.zero_add, lit, lit_nn, I_nat, I_add, I_mul, I_sub, I_div, inb_t, I_ne, I_nn, nn_I, nn_lt, nn_le, lt_nn, le_nn, I_t, I_f, I_lt_t, I_lt_f, isb_0, isb_1, vz_0, vz_1, nn_nat]
        · rw [← a5, e33]
          simp (disch := omega) only [fX6_comes, fX6_comes_J75, b2, b4, l2, g2, w3, w4, ck1, bd1, bx1, bx2, aS_at, iS_at, upd_at, ↓reduceIte, Nat.reduceEqDiff, Nat.reduceAdd, Nat.reduceMul, Nat.reduceSub, Nat.reduceDiv, Nat.reduceLT, Nat.reduceLeDiff, Nat.reduceBEq, ne_eq, not_true_eq_false, not_false_eq_true, reduceCtorEq, if_true, if_false, eq_self, Nat.add_zero, Nat.zero_add, lit, lit_nn, I_nat, I_add, I_mul, I_sub, I_div, inb_t, I_ne, I_nn, nn_I, nn_lt, nn_le, lt_nn, le_nn, I_t, I_f, I_lt_t, I_lt_f, isb_0, isb_1, vz_0, vz_1, nn_nat]

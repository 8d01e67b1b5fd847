def upd2 (P : Nat → Nat) (n o : Nat) : Nat → Nat := fun j => if j = n then o else P j
theorem hear_both {c m : St} (h : CTab (c 0) (c 1) (c 2) (m 24) (m 25) (m 26) (m 27) (m 28)) {k o : Nat} (hk : k < 30) (ho : o < 30) : ∃ c' m', fX2_hear c (I k) (I (o / 10 + 1)) (I (o % 10)) (m 0 0) = some c' ∧ fX6_hears m (I k) (I (o / 10 + 1)) (I (o % 10)) = some m' ∧ (∀ q, q < 24 ∨ 28 < q → m' q = m q) ∧ CTab (c' 0) (c' 1) (c' 2) (m' 24) (m' 25) (m' 26) (m' 27) (m' 28) := by
  obtain ⟨s, es⟩ : ∃ s, k / 5 = s := ⟨_, rfl⟩
  have hs : s < 6 := by omega
  have ek : k - s * 5 = k % 5 := by omega
  have eix : s * 30 + (o / 10 + 1 - 1) * 10 + o % 10 = 30 * s + o := by omega
  have hx : 30 * s + o < 180 := by omega
  obtain ⟨n, P, e1, e2⟩ := h s hs
  have hn := e1.1
  rcases find_ent hs e1 ho with ⟨z, hf⟩ | ⟨i, hi, hp, hf⟩
  · by_cases h8 : n < 8
    · obtain ⟨b1, b2, b3, b4, b5⟩ := e1
      refine ⟨aS (aS (aS c 2 (I s) (I (n + 1))) 0 (I (30 * s + o)) (I (k % 5))) 1 (I (30 * s + o)) (m 0 0), aS (aS (aS (aS (aS m 24 (I s) (I (n + 1))) 25 (I (8 * s + n)) (I (o / 10 + 1))) 26 (I (8 * s + n)) (I (o % 10))) 27 (I (8 * s + n)) (I (k % 5))) 28 (I (8 * s + n)) (m 0 0), ?_, ?_, ?_, ?_⟩
      · simp (disch := omega) only [fX2_hear, fX2_indexOf, fX2_hear_J49, ck1, bd1, bx1, bx2, aS_at, iS_at, upd_at, ↓reduceIte, Nat.reduceEqDiff, Nat.reduceAdd, Nat.reduceMul, Nat.reduceSub, Nat.reduceDiv, Nat.reduceLT, Nat.reduceLeDiff, Nat.reduceBEq, ne_eq, not_true_eq_false, not_false_eq_true, reduceCtorEq, if_true, if_false, eq_self, Nat.add_zero, Nat.zero_add, lit, lit_nn, I_nat, I_add, I_mul, I_sub, I_div, inb_t, I_ne, I_nn, nn_I, nn_lt, nn_le, lt_nn, le_nn, I_t, I_f, I_lt_t, I_lt_f, isb_0, isb_1, vz_0, vz_1, nn_nat, es, eix, z, e2, ek]
      · simp (disch := omega) only [fX6_hears, fX6_hears_J59, ck1, bd1, bx1, bx2, aS_at, iS_at, upd_at, ↓reduceIte, Nat.reduceEqDiff, Nat.reduceAdd, Nat.reduceMul, Nat.reduceSub, Nat.reduceDiv, Nat.reduceLT, Nat.reduceLeDiff, Nat.reduceBEq, ne_eq, not_true_eq_false, not_false_eq_true, reduceCtorEq, if_true, if_false, eq_self, Nat.add_zero, Nat.zero_add, lit, lit_nn, I_nat, I_add, I_mul, I_sub, I_div, inb_t, I_ne, I_nn, nn_I, nn_lt, nn_le, lt_nn, le_nn, I_t, I_f, I_lt_t, I_lt_f, isb_0, isb_1, vz_0, vz_1, nn_nat, es, hf, b2, ek]
      · intro q hq
        have z0 : q ≠ 24 := by omega
        have z1 : q ≠ 25 := by omega
        have z2 : q ≠ 26 := by omega
        have z3 : q ≠ 27 := by omega
        have z4 : q ≠ 28 := by omega
        simp only [aS_at, z0, z1, z2, z3, z4, ↓reduceIte]
      · refine ctab_one h (s := s) ⟨fun x hx => ?_, fun j hj => ?_⟩ ⟨?_, fun j hj => ?_, fun x hx => ?_⟩ ⟨n + 1, upd2 P n o, ⟨by omega, ?_, fun j hj => ?_, fun a b ha hb => ?_, fun p hp => ?_⟩, ?_⟩
        · have d : x ≠ 30 * s + o := by omega
          simp (disch := omega) only [ck1, bd1, bx1, bx2, aS_at, iS_at, upd_at, ↓reduceIte, Nat.reduceEqDiff, Nat.reduceAdd, Nat.reduceMul, Nat.reduceSub, Nat.reduceDiv, Nat.reduceLT, Nat.reduceLeDiff, Nat.reduceBEq, ne_eq, not_true_eq_false, not_false_eq_true, reduceCtorEq, if_true, if_false, eq_self, Nat.add_zero, Nat.zero_add, lit, lit_nn, I_nat, I_add, I_mul, I_sub, I_div, inb_t, I_ne, I_nn, nn_I, nn_lt, nn_le, lt_nn, le_nn, I_t, I_f, I_lt_t, I_lt_f, isb_0, isb_1, vz_0, vz_1, nn_nat, d]
          exact ⟨trivial, trivial⟩
        · simp (disch := omega) only [ck1, bd1, bx1, bx2, aS_at, iS_at, upd_at, ↓reduceIte, Nat.reduceEqDiff, Nat.reduceAdd, Nat.reduceMul, Nat.reduceSub, Nat.reduceDiv, Nat.reduceLT, Nat.reduceLeDiff, Nat.reduceBEq, ne_eq, not_true_eq_false, not_false_eq_true, reduceCtorEq, if_true, if_false, eq_self, Nat.add_zero, Nat.zero_add, lit, lit_nn, I_nat, I_add, I_mul, I_sub, I_div, inb_t, I_ne, I_nn, nn_I, nn_lt, nn_le, lt_nn, le_nn, I_t, I_f, I_lt_t, I_lt_f, isb_0, isb_1, vz_0, vz_1, nn_nat, hj]
        · intro q hq
          have z0 : q ≠ 24 := by omega
          have z1 : q ≠ 25 := by omega
          have z2 : q ≠ 26 := by omega
          have z3 : q ≠ 27 := by omega
          have z4 : q ≠ 28 := by omega
          simp only [aS_at, z0, z1, z2, z3, z4, ↓reduceIte]
        · simp (disch := omega) only [ck1, bd1, bx1, bx2, aS_at, iS_at, upd_at, ↓reduceIte, Nat.reduceEqDiff, Nat.reduceAdd, Nat.reduceMul, Nat.reduceSub, Nat.reduceDiv, Nat.reduceLT, Nat.reduceLeDiff, Nat.reduceBEq, ne_eq, not_true_eq_false, not_false_eq_true, reduceCtorEq, if_true, if_false, eq_self, Nat.add_zero, Nat.zero_add, lit, lit_nn, I_nat, I_add, I_mul, I_sub, I_div, inb_t, I_ne, I_nn, nn_I, nn_lt, nn_le, lt_nn, le_nn, I_t, I_f, I_lt_t, I_lt_f, isb_0, isb_1, vz_0, vz_1, nn_nat, hj]
        · have d : x ≠ 8 * s + n := by omega
          simp (disch := omega) only [ck1, bd1, bx1, bx2, aS_at, iS_at, upd_at, ↓reduceIte, Nat.reduceEqDiff, Nat.reduceAdd, Nat.reduceMul, Nat.reduceSub, Nat.reduceDiv, Nat.reduceLT, Nat.reduceLeDiff, Nat.reduceBEq, ne_eq, not_true_eq_false, not_false_eq_true, reduceCtorEq, if_true, if_false, eq_self, Nat.add_zero, Nat.zero_add, lit, lit_nn, I_nat, I_add, I_mul, I_sub, I_div, inb_t, I_ne, I_nn, nn_I, nn_lt, nn_le, lt_nn, le_nn, I_t, I_f, I_lt_t, I_lt_f, isb_0, isb_1, vz_0, vz_1, nn_nat, d]
          exact ⟨trivial, trivial, trivial, trivial⟩
        · simp (disch := omega) only [ck1, bd1, bx1, bx2, aS_at, iS_at, upd_at, ↓reduceIte, Nat.reduceEqDiff, Nat.reduceAdd, Nat.reduceMul, Nat.reduceSub, Nat.reduceDiv, Nat.reduceLT, Nat.reduceLeDiff, Nat.reduceBEq, ne_eq, not_true_eq_false, not_false_eq_true, reduceCtorEq, if_true, if_false, eq_self, Nat.add_zero, Nat.zero_add, lit, lit_nn, I_nat, I_add, I_mul, I_sub, I_div, inb_t, I_ne, I_nn, nn_I, nn_lt, nn_le, lt_nn, le_nn, I_t, I_f, I_lt_t, I_lt_f, isb_0, isb_1, vz_0, vz_1, nn_nat]
        · simp (disch := omega) only [ck1, bd1, bx1, bx2, aS_at, iS_at, upd_at, ↓reduceIte, Nat.reduceEqDiff, Nat.reduceAdd, Nat.reduceMul, Nat.reduceSub, Nat.reduceDiv, Nat.reduceLT, Nat.reduceLeDiff, Nat.reduceBEq, ne_eq, not_true_eq_false, not_false_eq_true, reduceCtorEq, if_true, if_false, eq_self, Nat.add_zero, Nat.zero_add, lit, lit_nn, I_nat, I_add, I_mul, I_sub, I_div, inb_t, I_ne, I_nn, nn_I, nn_lt, nn_le, lt_nn, le_nn, I_t, I_f, I_lt_t, I_lt_f, isb_0, isb_1, vz_0, vz_1, nn_nat, upd2]
          by_cases d : j = n
          · subst d
            simp only [↓reduceIte]
            exact ⟨ho, trivial, trivial, ⟨k % 5, by omega, rfl⟩, trivial, trivial⟩
          · obtain ⟨a1, a2, a3, a4, a5, a6⟩ := b3 j (by omega)
            have d2 : ¬ 8 * s + j = 8 * s + n := by omega
            have d3 : P j ≠ o := fun w => by
              obtain ⟨q, hq, a4⟩ := a4
              rw [w, a4] at a5
              have a7 : nn = I q := z.symm.trans a5
              rw [nn_I (by omega)] at a7
              exact a7
            have d4 : ¬ 30 * s + P j = 30 * s + o := by omega
            simp only [d, d2, d4, ↓reduceIte]
            exact ⟨a1, a2, a3, a4, a5, a6⟩
        · have nin : ∀ j, j < n → P j ≠ o := fun j hj w => by
            obtain ⟨a1, a2, a3, ⟨q, hq, a4⟩, a5, a6⟩ := b3 j hj
            rw [w, a4] at a5
            have a7 : nn = I q := z.symm.trans a5
            rw [nn_I (by omega)] at a7
            exact a7
          simp only [upd2]
          by_cases d1 : a = n
          · by_cases d2 : b = n
            · intro _; omega
            · simp only [d1, d2, ↓reduceIte]
              intro w; exact absurd w.symm (nin b (by omega))
          · by_cases d2 : b = n
            · simp only [d1, d2, ↓reduceIte]
              intro w; exact absurd w (nin a (by omega))
            · simp only [d1, d2, ↓reduceIte]
              exact b4 a b (by omega) (by omega)
        · simp (disch := omega) only [ck1, bd1, bx1, bx2, aS_at, iS_at, upd_at, ↓reduceIte, Nat.reduceEqDiff, Nat.reduceAdd, Nat.reduceMul, Nat.reduceSub, Nat.reduceDiv, Nat.reduceLT, Nat.reduceLeDiff, Nat.reduceBEq, ne_eq, not_true_eq_false, not_false_eq_true, reduceCtorEq, if_true, if_false, eq_self, Nat.add_zero, Nat.zero_add, lit, lit_nn, I_nat, I_add, I_mul, I_sub, I_div, inb_t, I_ne, I_nn, nn_I, nn_lt, nn_le, lt_nn, le_nn, I_t, I_f, I_lt_t, I_lt_f, isb_0, isb_1, vz_0, vz_1, nn_nat, upd2]
          by_cases d : p = o
          · intro _
            exact ⟨n, by omega, by rw [if_pos rfl]; exact d.symm⟩
          · have d4 : ¬ 30 * s + p = 30 * s + o := by omega
            simp only [d4, ↓reduceIte]
            intro hh
            obtain ⟨i, hi, e⟩ := b5 p hp hh
            exact ⟨i, by omega, by rw [if_neg (by omega)]; exact e⟩
        · simp (disch := omega) only [ck1, bd1, bx1, bx2, aS_at, iS_at, upd_at, ↓reduceIte, Nat.reduceEqDiff, Nat.reduceAdd, Nat.reduceMul, Nat.reduceSub, Nat.reduceDiv, Nat.reduceLT, Nat.reduceLeDiff, Nat.reduceBEq, ne_eq, not_true_eq_false, not_false_eq_true, reduceCtorEq, if_true, if_false, eq_self, Nat.add_zero, Nat.zero_add, lit, lit_nn, I_nat, I_add, I_mul, I_sub, I_div, inb_t, I_ne, I_nn, nn_I, nn_lt, nn_le, lt_nn, le_nn, I_t, I_f, I_lt_t, I_lt_f, isb_0, isb_1, vz_0, vz_1, nn_nat]
    · have e8 : n = 8 := by omega
      subst e8
      refine ⟨c, m, ?_, ?_, fun _ _ => rfl, h⟩
      · simp (disch := omega) only [fX2_hear, fX2_indexOf, fX2_hear_J49, ck1, bd1, bx1, bx2, aS_at, iS_at, upd_at, ↓reduceIte, Nat.reduceEqDiff, Nat.reduceAdd, Nat.reduceMul, Nat.reduceSub, Nat.reduceDiv, Nat.reduceLT, Nat.reduceLeDiff, Nat.reduceBEq, ne_eq, not_true_eq_false, not_false_eq_true, reduceCtorEq, if_true, if_false, eq_self, Nat.add_zero, Nat.zero_add, lit, lit_nn, I_nat, I_add, I_mul, I_sub, I_div, inb_t, I_ne, I_nn, nn_I, nn_lt, nn_le, lt_nn, le_nn, I_t, I_f, I_lt_t, I_lt_f, isb_0, isb_1, vz_0, vz_1, nn_nat, es, eix, z, e2, ek]
      · simp (disch := omega) only [fX6_hears, fX6_hears_J59, ck1, bd1, bx1, bx2, aS_at, iS_at, upd_at, ↓reduceIte, Nat.reduceEqDiff, Nat.reduceAdd, Nat.reduceMul, Nat.reduceSub, Nat.reduceDiv, Nat.reduceLT, Nat.reduceLeDiff, Nat.reduceBEq, ne_eq, not_true_eq_false, not_false_eq_true, reduceCtorEq, if_true, if_false, eq_self, Nat.add_zero, Nat.zero_add, lit, lit_nn, I_nat, I_add, I_mul, I_sub, I_div, inb_t, I_ne, I_nn, nn_I, nn_lt, nn_le, lt_nn, le_nn, I_t, I_f, I_lt_t, I_lt_f, isb_0, isb_1, vz_0, vz_1, nn_nat, es, hf, e1.2.1, ek]
  · obtain ⟨b1, b2, b3, b4, b5⟩ := e1
    obtain ⟨a1, a2, a3, ⟨q, hq, a4⟩, a5, a6⟩ := b3 i hi
    have nz : c 0 (30 * s + o) ≠ nn := by
      have a7 : c 0 (30 * s + P i) = m 27 (8 * s + i) := a5
      rw [← hp, a7, a4, ne_eq, I_nn (by omega)]
      exact fun h => h
    refine ⟨aS (aS c 0 (I (30 * s + o)) (I (k % 5))) 1 (I (30 * s + o)) (m 0 0), aS (aS (aS (aS m 25 (I (8 * s + i)) (I (o / 10 + 1))) 26 (I (8 * s + i)) (I (o % 10))) 27 (I (8 * s + i)) (I (k % 5))) 28 (I (8 * s + i)) (m 0 0), ?_, ?_, ?_, ?_⟩
    · simp (disch := omega) only [fX2_hear, fX2_indexOf, fX2_hear_J49, ck1, bd1, bx1, bx2, aS_at, iS_at, upd_at, ↓reduceIte, Nat.reduceEqDiff, Nat.reduceAdd, Nat.reduceMul, Nat.reduceSub, Nat.reduceDiv, Nat.reduceLT, Nat.reduceLeDiff, Nat.reduceBEq, ne_eq, not_true_eq_false, not_false_eq_true, reduceCtorEq, if_true, if_false, eq_self, Nat.add_zero, Nat.zero_add, lit, lit_nn, I_nat, I_add, I_mul, I_sub, I_div, inb_t, I_ne, I_nn, nn_I, nn_lt, nn_le, lt_nn, le_nn, I_t, I_f, I_lt_t, I_lt_f, isb_0, isb_1, vz_0, vz_1, nn_nat, es, eix, nz, e2, ek]
    · simp (disch := omega) only [fX6_hears, fX6_hears_J59, ck1, bd1, bx1, bx2, aS_at, iS_at, upd_at, ↓reduceIte, Nat.reduceEqDiff, Nat.reduceAdd, Nat.reduceMul, Nat.reduceSub, Nat.reduceDiv, Nat.reduceLT, Nat.reduceLeDiff, Nat.reduceBEq, ne_eq, not_true_eq_false, not_false_eq_true, reduceCtorEq, if_true, if_false, eq_self, Nat.add_zero, Nat.zero_add, lit, lit_nn, I_nat, I_add, I_mul, I_sub, I_div, inb_t, I_ne, I_nn, nn_I, nn_lt, nn_le, lt_nn, le_nn, I_t, I_f, I_lt_t, I_lt_f, isb_0, isb_1, vz_0, vz_1, nn_nat, es, hf, b2, ek]
    · intro q hq
      have z1 : q ≠ 25 := by omega
      have z2 : q ≠ 26 := by omega
      have z3 : q ≠ 27 := by omega
      have z4 : q ≠ 28 := by omega
      simp only [aS_at, z1, z2, z3, z4, ↓reduceIte]
    · refine ctab_one h (s := s) ⟨fun x hx => ?_, fun j hj => ?_⟩ ⟨?_, fun j hj => ?_, fun x hx => ?_⟩ ⟨n, P, ⟨by omega, ?_, fun j hj => ?_, b4, fun p hp' => ?_⟩, ?_⟩
      · have d : x ≠ 30 * s + o := by omega
        simp (disch := omega) only [ck1, bd1, bx1, bx2, aS_at, iS_at, upd_at, ↓reduceIte, Nat.reduceEqDiff, Nat.reduceAdd, Nat.reduceMul, Nat.reduceSub, Nat.reduceDiv, Nat.reduceLT, Nat.reduceLeDiff, Nat.reduceBEq, ne_eq, not_true_eq_false, not_false_eq_true, reduceCtorEq, if_true, if_false, eq_self, Nat.add_zero, Nat.zero_add, lit, lit_nn, I_nat, I_add, I_mul, I_sub, I_div, inb_t, I_ne, I_nn, nn_I, nn_lt, nn_le, lt_nn, le_nn, I_t, I_f, I_lt_t, I_lt_f, isb_0, isb_1, vz_0, vz_1, nn_nat, d]
        exact ⟨trivial, trivial⟩
      · simp (disch := omega) only [ck1, bd1, bx1, bx2, aS_at, iS_at, upd_at, ↓reduceIte, Nat.reduceEqDiff, Nat.reduceAdd, Nat.reduceMul, Nat.reduceSub, Nat.reduceDiv, Nat.reduceLT, Nat.reduceLeDiff, Nat.reduceBEq, ne_eq, not_true_eq_false, not_false_eq_true, reduceCtorEq, if_true, if_false, eq_self, Nat.add_zero, Nat.zero_add, lit, lit_nn, I_nat, I_add, I_mul, I_sub, I_div, inb_t, I_ne, I_nn, nn_I, nn_lt, nn_le, lt_nn, le_nn, I_t, I_f, I_lt_t, I_lt_f, isb_0, isb_1, vz_0, vz_1, nn_nat, hj]
      · intro q hq
        have z1 : q ≠ 25 := by omega
        have z2 : q ≠ 26 := by omega
        have z3 : q ≠ 27 := by omega
        have z4 : q ≠ 28 := by omega
        simp only [aS_at, z1, z2, z3, z4, ↓reduceIte]
      · simp (disch := omega) only [ck1, bd1, bx1, bx2, aS_at, iS_at, upd_at, ↓reduceIte, Nat.reduceEqDiff, Nat.reduceAdd, Nat.reduceMul, Nat.reduceSub, Nat.reduceDiv, Nat.reduceLT, Nat.reduceLeDiff, Nat.reduceBEq, ne_eq, not_true_eq_false, not_false_eq_true, reduceCtorEq, if_true, if_false, eq_self, Nat.add_zero, Nat.zero_add, lit, lit_nn, I_nat, I_add, I_mul, I_sub, I_div, inb_t, I_ne, I_nn, nn_I, nn_lt, nn_le, lt_nn, le_nn, I_t, I_f, I_lt_t, I_lt_f, isb_0, isb_1, vz_0, vz_1, nn_nat]
      · have d : x ≠ 8 * s + i := by omega
        simp (disch := omega) only [ck1, bd1, bx1, bx2, aS_at, iS_at, upd_at, ↓reduceIte, Nat.reduceEqDiff, Nat.reduceAdd, Nat.reduceMul, Nat.reduceSub, Nat.reduceDiv, Nat.reduceLT, Nat.reduceLeDiff, Nat.reduceBEq, ne_eq, not_true_eq_false, not_false_eq_true, reduceCtorEq, if_true, if_false, eq_self, Nat.add_zero, Nat.zero_add, lit, lit_nn, I_nat, I_add, I_mul, I_sub, I_div, inb_t, I_ne, I_nn, nn_I, nn_lt, nn_le, lt_nn, le_nn, I_t, I_f, I_lt_t, I_lt_f, isb_0, isb_1, vz_0, vz_1, nn_nat, d]
        exact ⟨trivial, trivial, trivial, trivial⟩
      · simp (disch := omega) only [ck1, bd1, bx1, bx2, aS_at, iS_at, upd_at, ↓reduceIte, Nat.reduceEqDiff, Nat.reduceAdd, Nat.reduceMul, Nat.reduceSub, Nat.reduceDiv, Nat.reduceLT, Nat.reduceLeDiff, Nat.reduceBEq, ne_eq, not_true_eq_false, not_false_eq_true, reduceCtorEq, if_true, if_false, eq_self, Nat.add_zero, Nat.zero_add, lit, lit_nn, I_nat, I_add, I_mul, I_sub, I_div, inb_t, I_ne, I_nn, nn_I, nn_lt, nn_le, lt_nn, le_nn, I_t, I_f, I_lt_t, I_lt_f, isb_0, isb_1, vz_0, vz_1, nn_nat]
        exact b2
      · simp (disch := omega) only [ck1, bd1, bx1, bx2, aS_at, iS_at, upd_at, ↓reduceIte, Nat.reduceEqDiff, Nat.reduceAdd, Nat.reduceMul, Nat.reduceSub, Nat.reduceDiv, Nat.reduceLT, Nat.reduceLeDiff, Nat.reduceBEq, ne_eq, not_true_eq_false, not_false_eq_true, reduceCtorEq, if_true, if_false, eq_self, Nat.add_zero, Nat.zero_add, lit, lit_nn, I_nat, I_add, I_mul, I_sub, I_div, inb_t, I_ne, I_nn, nn_I, nn_lt, nn_le, lt_nn, le_nn, I_t, I_f, I_lt_t, I_lt_f, isb_0, isb_1, vz_0, vz_1, nn_nat]
        by_cases d : j = i
        · subst d
          rw [hp]
          simp only [↓reduceIte]
          exact ⟨ho, trivial, trivial, ⟨k % 5, by omega, rfl⟩, trivial, trivial⟩
        · obtain ⟨a1, a2, a3, a4, a5, a6⟩ := b3 j (by omega)
          have d2 : ¬ 8 * s + j = 8 * s + i := by omega
          have d3 : P j ≠ o := fun w => d (b4 j i hj hi (w.trans hp.symm))
          have d4 : ¬ 30 * s + P j = 30 * s + o := by omega
          simp only [d2, d4, ↓reduceIte]
          exact ⟨a1, a2, a3, a4, a5, a6⟩
      · simp (disch := omega) only [ck1, bd1, bx1, bx2, aS_at, iS_at, upd_at, ↓reduceIte, Nat.reduceEqDiff, Nat.reduceAdd, Nat.reduceMul, Nat.reduceSub, Nat.reduceDiv, Nat.reduceLT, Nat.reduceLeDiff, Nat.reduceBEq, ne_eq, not_true_eq_false, not_false_eq_true, reduceCtorEq, if_true, if_false, eq_self, Nat.add_zero, Nat.zero_add, lit, lit_nn, I_nat, I_add, I_mul, I_sub, I_div, inb_t, I_ne, I_nn, nn_I, nn_lt, nn_le, lt_nn, le_nn, I_t, I_f, I_lt_t, I_lt_f, isb_0, isb_1, vz_0, vz_1, nn_nat]
        by_cases d : p = o
        · intro _
          exact ⟨i, hi, hp.trans d.symm⟩
        · have d4 : ¬ 30 * s + p = 30 * s + o := by omega
          simp only [d4, ↓reduceIte]
          exact b5 p hp'
      · simp (disch := omega) only [ck1, bd1, bx1, bx2, aS_at, iS_at, upd_at, ↓reduceIte, Nat.reduceEqDiff, Nat.reduceAdd, Nat.reduceMul, Nat.reduceSub, Nat.reduceDiv, Nat.reduceLT, Nat.reduceLeDiff, Nat.reduceBEq, ne_eq, not_true_eq_false, not_false_eq_true, reduceCtorEq, if_true, if_false, eq_self, Nat.add_zero, Nat.zero_add, lit, lit_nn, I_nat, I_add, I_mul, I_sub, I_div, inb_t, I_ne, I_nn, nn_I, nn_lt, nn_le, lt_nn, le_nn, I_t, I_f, I_lt_t, I_lt_f, isb_0, isb_1, vz_0, vz_1, nn_nat]
        exact e2

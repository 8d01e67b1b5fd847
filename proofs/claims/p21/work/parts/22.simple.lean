/-! ===== rank, guard, limit, plain, trunk, got ===== -/
theorem sim_rank {N : Nat} {cs cw ct cl cb mm : St} (h : Rel N cs cw ct cl cb mm) (x1 x2 : Int32) :
    (∃ k r m', (k = 1 ∨ k = 2) ∧ fX5_rank cw x1 x2 = some (.inr k) ∧ fX6_rank mm x1 x2 = some (r, m') ∧ m' 40 0 = I k ∧ Rel N cs cw ct cl cb m') ∨
    (∃ r cw' m', fX5_rank cw x1 x2 = some (.inl (r, cw')) ∧ fX6_rank mm x1 x2 = some (r, m') ∧ m' 40 0 = I 0 ∧ Rel N cs cw' ct cl cb m') := by
  by_cases h1 : inD x1 0 6
  · obtain ⟨a, -, ha, rfl⟩ := h1
    by_cases h2 : inD x2 0 16
    · refine Or.inr ⟨mm 2 a, aS cw 5 (I a) x2, aS (iS mm 40 (I 0)) 2 (I a) x2, ?_, ?_, rfl, ?_⟩
      · have e : cw 5 a = mm 2 a := h.2.2.2.2.2.2.2.2.2.1 a ha
        simp (disch := omega) only [fX5_rank, needSwitch_t ha, needWithin_t (a := 0) (b := 15) (by omega) h2, ck1, bd1, bx1, bx2, aS_at, iS_at, upd_at, ↓reduceIte, Nat.reduceEqDiff, Nat.reduceAdd, Nat.reduceMul, Nat.reduceSub, Nat.reduceDiv, Nat.reduceLT, Nat.reduceLeDiff, Nat.reduceBEq, ne_eq, not_true_eq_false, not_false_eq_true, reduceCtorEq, if_true, if_false, eq_self, Nat.add_zero, Nat.zero_add, lit, lit_nn, I_nat, I_add, I_mul, I_sub, I_div, inb_t, I_ne, I_nn, nn_I, nn_lt, nn_le, lt_nn, le_nn, I_t, I_f, I_lt_t, I_lt_f, isb_0, isb_1, vz_0, vz_1, nn_nat, e]
      · simp (disch := omega) only [fX6_rank_J27, fX6_rank, isSwitch_t ha, isIn_t (a := 0) (b := 15) (by omega) h2, fails_0, ck1, bd1, bx1, bx2, aS_at, iS_at, upd_at, ↓reduceIte, Nat.reduceEqDiff, Nat.reduceAdd, Nat.reduceMul, Nat.reduceSub, Nat.reduceDiv, Nat.reduceLT, Nat.reduceLeDiff, Nat.reduceBEq, ne_eq, not_true_eq_false, not_false_eq_true, reduceCtorEq, if_true, if_false, eq_self, Nat.add_zero, Nat.zero_add, lit, lit_nn, I_nat, I_add, I_mul, I_sub, I_div, inb_t, I_ne, I_nn, nn_I, nn_lt, nn_le, lt_nn, le_nn, I_t, I_f, I_lt_t, I_lt_f, isb_0, isb_1, vz_0, vz_1, nn_nat]
      · obtain ⟨p1, p2, p3, p4, p5, p6, p7, p8, p9, c1, c2, c3, c4, c5, c6, c7, c8, c9, c10⟩ := h
        refine ⟨?_, p2, p3, p4, p5, p6, p7, p8, p9, ?_, c2, c3, c4, c5, c6, c7, c8, c9, c10⟩
        · intro j hj
          obtain ⟨r, -, hr, rfl⟩ := h2
          simp (disch := omega) only [ck1, bd1, bx1, bx2, aS_at, iS_at, upd_at, ↓reduceIte, Nat.reduceEqDiff, Nat.reduceAdd, Nat.reduceMul, Nat.reduceSub, Nat.reduceDiv, Nat.reduceLT, Nat.reduceLeDiff, Nat.reduceBEq, ne_eq, not_true_eq_false, not_false_eq_true, reduceCtorEq, if_true, if_false, eq_self, Nat.add_zero, Nat.zero_add, lit, lit_nn, I_nat, I_add, I_mul, I_sub, I_div, inb_t, I_ne, I_nn, nn_I, nn_lt, nn_le, lt_nn, le_nn, I_t, I_f, I_lt_t, I_lt_f, isb_0, isb_1, vz_0, vz_1, nn_nat]
          split
          · exact ⟨r, hr, rfl⟩
          · exact p1 j hj
        · intro j hj
          simp (disch := omega) only [ck1, bd1, bx1, bx2, aS_at, iS_at, upd_at, ↓reduceIte, Nat.reduceEqDiff, Nat.reduceAdd, Nat.reduceMul, Nat.reduceSub, Nat.reduceDiv, Nat.reduceLT, Nat.reduceLeDiff, Nat.reduceBEq, ne_eq, not_true_eq_false, not_false_eq_true, reduceCtorEq, if_true, if_false, eq_self, Nat.add_zero, Nat.zero_add, lit, lit_nn, I_nat, I_add, I_mul, I_sub, I_div, inb_t, I_ne, I_nn, nn_I, nn_lt, nn_le, lt_nn, le_nn, I_t, I_f, I_lt_t, I_lt_f, isb_0, isb_1, vz_0, vz_1, nn_nat]
          split
          · rfl
          · exact c1 j hj
    · refine Or.inl ⟨2, I 0, iS mm 40 (I 2), Or.inr rfl, ?_, ?_, rfl, h.thrown _⟩
      · simp (disch := omega) only [fX5_rank, needSwitch_t ha, needWithin_f (a := 0) (b := 15) (by omega) (by omega) h2, ck1, bd1, bx1, bx2, aS_at, iS_at, upd_at, ↓reduceIte, Nat.reduceEqDiff, Nat.reduceAdd, Nat.reduceMul, Nat.reduceSub, Nat.reduceDiv, Nat.reduceLT, Nat.reduceLeDiff, Nat.reduceBEq, ne_eq, not_true_eq_false, not_false_eq_true, reduceCtorEq, if_true, if_false, eq_self, Nat.add_zero, Nat.zero_add, lit, lit_nn, I_nat, I_add, I_mul, I_sub, I_div, inb_t, I_ne, I_nn, nn_I, nn_lt, nn_le, lt_nn, le_nn, I_t, I_f, I_lt_t, I_lt_f, isb_0, isb_1, vz_0, vz_1, nn_nat]
      · simp (disch := omega) only [fX6_rank_J27, fX6_rank, isSwitch_t ha, isIn_f (a := 0) (b := 15) (by omega) (by omega) h2, fails_k, ck1, bd1, bx1, bx2, aS_at, iS_at, upd_at, ↓reduceIte, Nat.reduceEqDiff, Nat.reduceAdd, Nat.reduceMul, Nat.reduceSub, Nat.reduceDiv, Nat.reduceLT, Nat.reduceLeDiff, Nat.reduceBEq, ne_eq, not_true_eq_false, not_false_eq_true, reduceCtorEq, if_true, if_false, eq_self, Nat.add_zero, Nat.zero_add, lit, lit_nn, I_nat, I_add, I_mul, I_sub, I_div, inb_t, I_ne, I_nn, nn_I, nn_lt, nn_le, lt_nn, le_nn, I_t, I_f, I_lt_t, I_lt_f, isb_0, isb_1, vz_0, vz_1, nn_nat]
  · refine Or.inl ⟨1, I 0, iS mm 40 (I 1), Or.inl rfl, ?_, ?_, rfl, h.thrown _⟩
    · simp (disch := omega) only [fX5_rank, needSwitch_f h1, ck1, bd1, bx1, bx2, aS_at, iS_at, upd_at, ↓reduceIte, Nat.reduceEqDiff, Nat.reduceAdd, Nat.reduceMul, Nat.reduceSub, Nat.reduceDiv, Nat.reduceLT, Nat.reduceLeDiff, Nat.reduceBEq, ne_eq, not_true_eq_false, not_false_eq_true, reduceCtorEq, if_true, if_false, eq_self, Nat.add_zero, Nat.zero_add, lit, lit_nn, I_nat, I_add, I_mul, I_sub, I_div, inb_t, I_ne, I_nn, nn_I, nn_lt, nn_le, lt_nn, le_nn, I_t, I_f, I_lt_t, I_lt_f, isb_0, isb_1, vz_0, vz_1, nn_nat]
    · simp (disch := omega) only [fX6_rank_J27, fX6_rank, isSwitch_f h1, fails_k, ck1, bd1, bx1, bx2, aS_at, iS_at, upd_at, ↓reduceIte, Nat.reduceEqDiff, Nat.reduceAdd, Nat.reduceMul, Nat.reduceSub, Nat.reduceDiv, Nat.reduceLT, Nat.reduceLeDiff, Nat.reduceBEq, ne_eq, not_true_eq_false, not_false_eq_true, reduceCtorEq, if_true, if_false, eq_self, Nat.add_zero, Nat.zero_add, lit, lit_nn, I_nat, I_add, I_mul, I_sub, I_div, inb_t, I_ne, I_nn, nn_I, nn_lt, nn_le, lt_nn, le_nn, I_t, I_f, I_lt_t, I_lt_f, isb_0, isb_1, vz_0, vz_1, nn_nat]
theorem sim_limit {N : Nat} {cs cw ct cl cb mm : St} (h : Rel N cs cw ct cl cb mm) (x1 : Int32) :
    (∃ k r m', (k = 2) ∧ fX5_limit cs x1 = some (.inr k) ∧ fX6_limit mm x1 = some (r, m') ∧ m' 40 0 = I 1 ∧ Rel N cs cw ct cl cb m') ∨
    (∃ r cs' m', fX5_limit cs x1 = some (.inl (r, cs')) ∧ fX6_limit mm x1 = some (r, m') ∧ m' 40 0 = I 0 ∧ Rel N cs' cw ct cl cb m') := by
  by_cases h2 : inD x1 1 101
  · refine Or.inr ⟨mm 1 0, iS cs 9 x1, iS (iS mm 40 (I 0)) 1 x1, ?_, ?_, rfl, ?_⟩
    · have e : cs 9 0 = mm 1 0 := h.2.2.2.2.2.2.2.2.2.2.2.2.2.2.2.2.1.2
      simp (disch := omega) only [fX5_limit, needWithin_t (a := 1) (b := 100) (by omega) h2, ck1, bd1, bx1, bx2, aS_at, iS_at, upd_at, ↓reduceIte, Nat.reduceEqDiff, Nat.reduceAdd, Nat.reduceMul, Nat.reduceSub, Nat.reduceDiv, Nat.reduceLT, Nat.reduceLeDiff, Nat.reduceBEq, ne_eq, not_true_eq_false, not_false_eq_true, reduceCtorEq, if_true, if_false, eq_self, Nat.add_zero, Nat.zero_add, lit, lit_nn, I_nat, I_add, I_mul, I_sub, I_div, inb_t, I_ne, I_nn, nn_I, nn_lt, nn_le, lt_nn, le_nn, I_t, I_f, I_lt_t, I_lt_f, isb_0, isb_1, vz_0, vz_1, nn_nat, e]
    · simp (disch := omega) only [fX6_limit_J16, fX6_limit, isIn_t (a := 1) (b := 100) (by omega) h2, fails_0, ck1, bd1, bx1, bx2, aS_at, iS_at, upd_at, ↓reduceIte, Nat.reduceEqDiff, Nat.reduceAdd, Nat.reduceMul, Nat.reduceSub, Nat.reduceDiv, Nat.reduceLT, Nat.reduceLeDiff, Nat.reduceBEq, ne_eq, not_true_eq_false, not_false_eq_true, reduceCtorEq, if_true, if_false, eq_self, Nat.add_zero, Nat.zero_add, lit, lit_nn, I_nat, I_add, I_mul, I_sub, I_div, inb_t, I_ne, I_nn, nn_I, nn_lt, nn_le, lt_nn, le_nn, I_t, I_f, I_lt_t, I_lt_f, isb_0, isb_1, vz_0, vz_1, nn_nat]
    · obtain ⟨p1, p2, p3, p4, p5, p6, p7, p8, p9, c1, c2, c3, c4, c5, c6, c7, c8, c9, c10⟩ := h
      refine ⟨p1, p2, p3, p4, p5, ⟨p6.1, p6.2.1, ?_⟩, p7, p8, p9, c1, c2, c3, c4, c5, c6, c7, ⟨c8.1, rfl⟩, c9, c10⟩
      obtain ⟨r, h1, hr, rfl⟩ := h2
      exact ⟨r, h1, by omega, rfl⟩
  · refine Or.inl ⟨2, I 0, iS mm 40 (I 1), rfl, ?_, ?_, rfl, h.thrown _⟩
    · simp (disch := omega) only [fX5_limit, needWithin_f (a := 1) (b := 100) (by omega) (by omega) h2, ck1, bd1, bx1, bx2, aS_at, iS_at, upd_at, ↓reduceIte, Nat.reduceEqDiff, Nat.reduceAdd, Nat.reduceMul, Nat.reduceSub, Nat.reduceDiv, Nat.reduceLT, Nat.reduceLeDiff, Nat.reduceBEq, ne_eq, not_true_eq_false, not_false_eq_true, reduceCtorEq, if_true, if_false, eq_self, Nat.add_zero, Nat.zero_add, lit, lit_nn, I_nat, I_add, I_mul, I_sub, I_div, inb_t, I_ne, I_nn, nn_I, nn_lt, nn_le, lt_nn, le_nn, I_t, I_f, I_lt_t, I_lt_f, isb_0, isb_1, vz_0, vz_1, nn_nat]
    · simp (disch := omega) only [fX6_limit_J16, fX6_limit, isIn_f (a := 1) (b := 100) (by omega) (by omega) h2, fails_k, ck1, bd1, bx1, bx2, aS_at, iS_at, upd_at, ↓reduceIte, Nat.reduceEqDiff, Nat.reduceAdd, Nat.reduceMul, Nat.reduceSub, Nat.reduceDiv, Nat.reduceLT, Nat.reduceLeDiff, Nat.reduceBEq, ne_eq, not_true_eq_false, not_false_eq_true, reduceCtorEq, if_true, if_false, eq_self, Nat.add_zero, Nat.zero_add, lit, lit_nn, I_nat, I_add, I_mul, I_sub, I_div, inb_t, I_ne, I_nn, nn_I, nn_lt, nn_le, lt_nn, le_nn, I_t, I_f, I_lt_t, I_lt_f, isb_0, isb_1, vz_0, vz_1, nn_nat]
theorem sim_guard {N : Nat} {cs cw ct cl cb mm : St} (h : Rel N cs cw ct cl cb mm) (x1 x2 x3 : Int32) :
    (∃ k r m', (k = 1 ∨ k = 2) ∧ fX5_guard cw x1 x2 x3 = some (.inr k) ∧ fX6_guard mm x1 x2 x3 = some (r, m') ∧ m' 40 0 = I k ∧ Rel N cs cw ct cl cb m') ∨
    (∃ r cw' m', fX5_guard cw x1 x2 x3 = some (.inl (r, cw')) ∧ fX6_guard mm x1 x2 x3 = some (r, m') ∧ m' 40 0 = I 0 ∧ Rel N cs cw' ct cl cb m') := by
  rcases port_cases x1 x2 with ⟨a, b, ha, hb, rfl, rfl⟩ | ⟨hc, hm⟩
  · obtain ⟨k, ek⟩ : ∃ k, k = 5 * a + b := ⟨_, rfl⟩
    have hk : k < 30 := by omega
    have e1 : a * 5 + b = k := by omega
    have e2 : 5 * a + b = k := by omega
    by_cases h2 : inD x3 0 3
    · refine Or.inr ⟨mm 6 k, aS cw 3 (I k) x3, aS (iS mm 40 (I 0)) 6 (I k) x3, ?_, ?_, rfl, ?_⟩
      · have e : cw 3 k = mm 6 k := (h.2.2.2.2.2.2.2.2.2.2.1 k hk).2.2.2
        simp (disch := omega) only [fX5_guard, fX5_spotOf, needPort_t ha hb, needWithin_t (a := 0) (b := 2) (by omega) h2, ck1, bd1, bx1, bx2, aS_at, iS_at, upd_at, ↓reduceIte, Nat.reduceEqDiff, Nat.reduceAdd, Nat.reduceMul, Nat.reduceSub, Nat.reduceDiv, Nat.reduceLT, Nat.reduceLeDiff, Nat.reduceBEq, ne_eq, not_true_eq_false, not_false_eq_true, reduceCtorEq, if_true, if_false, eq_self, Nat.add_zero, Nat.zero_add, lit, lit_nn, I_nat, I_add, I_mul, I_sub, I_div, inb_t, I_ne, I_nn, nn_I, nn_lt, nn_le, lt_nn, le_nn, I_t, I_f, I_lt_t, I_lt_f, isb_0, isb_1, vz_0, vz_1, nn_nat, e1, e]
      · simp (disch := omega) only [fX6_guard_J27, fX6_guard, isPort_t ha hb, isIn_t (a := 0) (b := 2) (by omega) h2, fails_0, ck1, bd1, bx1, bx2, aS_at, iS_at, upd_at, ↓reduceIte, Nat.reduceEqDiff, Nat.reduceAdd, Nat.reduceMul, Nat.reduceSub, Nat.reduceDiv, Nat.reduceLT, Nat.reduceLeDiff, Nat.reduceBEq, ne_eq, not_true_eq_false, not_false_eq_true, reduceCtorEq, if_true, if_false, eq_self, Nat.add_zero, Nat.zero_add, lit, lit_nn, I_nat, I_add, I_mul, I_sub, I_div, inb_t, I_ne, I_nn, nn_I, nn_lt, nn_le, lt_nn, le_nn, I_t, I_f, I_lt_t, I_lt_f, isb_0, isb_1, vz_0, vz_1, nn_nat, e2]
      · obtain ⟨p1, p2, p3, p4, p5, p6, p7, p8, p9, c1, c2, c3, c4, c5, c6, c7, c8, c9, c10⟩ := h
        refine ⟨p1, p2, p3, ?_, p5, p6, p7, p8, p9, c1, ?_, c3, c4, c5, c6, c7, c8, c9, c10⟩
        · intro j hj
          obtain ⟨r, -, hr, rfl⟩ := h2
          simp (disch := omega) only [ck1, bd1, bx1, bx2, aS_at, iS_at, upd_at, ↓reduceIte, Nat.reduceEqDiff, Nat.reduceAdd, Nat.reduceMul, Nat.reduceSub, Nat.reduceDiv, Nat.reduceLT, Nat.reduceLeDiff, Nat.reduceBEq, ne_eq, not_true_eq_false, not_false_eq_true, reduceCtorEq, if_true, if_false, eq_self, Nat.add_zero, Nat.zero_add, lit, lit_nn, I_nat, I_add, I_mul, I_sub, I_div, inb_t, I_ne, I_nn, nn_I, nn_lt, nn_le, lt_nn, le_nn, I_t, I_f, I_lt_t, I_lt_f, isb_0, isb_1, vz_0, vz_1, nn_nat]
          split
          · exact ⟨r, hr, rfl⟩
          · exact p4 j hj
        · intro j hj
          obtain ⟨d1, d2, d3, d4⟩ := c2 j hj
          refine ⟨d1, d2, d3, ?_⟩
          simp (disch := omega) only [ck1, bd1, bx1, bx2, aS_at, iS_at, upd_at, ↓reduceIte, Nat.reduceEqDiff, Nat.reduceAdd, Nat.reduceMul, Nat.reduceSub, Nat.reduceDiv, Nat.reduceLT, Nat.reduceLeDiff, Nat.reduceBEq, ne_eq, not_true_eq_false, not_false_eq_true, reduceCtorEq, if_true, if_false, eq_self, Nat.add_zero, Nat.zero_add, lit, lit_nn, I_nat, I_add, I_mul, I_sub, I_div, inb_t, I_ne, I_nn, nn_I, nn_lt, nn_le, lt_nn, le_nn, I_t, I_f, I_lt_t, I_lt_f, isb_0, isb_1, vz_0, vz_1, nn_nat]
          split
          · rfl
          · exact d4
    · refine Or.inl ⟨2, I 0, iS mm 40 (I 2), Or.inr rfl, ?_, ?_, rfl, h.thrown _⟩
      · simp (disch := omega) only [fX5_guard, fX5_spotOf, needPort_t ha hb, needWithin_f (a := 0) (b := 2) (by omega) (by omega) h2, ck1, bd1, bx1, bx2, aS_at, iS_at, upd_at, ↓reduceIte, Nat.reduceEqDiff, Nat.reduceAdd, Nat.reduceMul, Nat.reduceSub, Nat.reduceDiv, Nat.reduceLT, Nat.reduceLeDiff, Nat.reduceBEq, ne_eq, not_true_eq_false, not_false_eq_true, reduceCtorEq, if_true, if_false, eq_self, Nat.add_zero, Nat.zero_add, lit, lit_nn, I_nat, I_add, I_mul, I_sub, I_div, inb_t, I_ne, I_nn, nn_I, nn_lt, nn_le, lt_nn, le_nn, I_t, I_f, I_lt_t, I_lt_f, isb_0, isb_1, vz_0, vz_1, nn_nat]
      · simp (disch := omega) only [fX6_guard_J27, fX6_guard, isPort_t ha hb, isIn_f (a := 0) (b := 2) (by omega) (by omega) h2, fails_k, ck1, bd1, bx1, bx2, aS_at, iS_at, upd_at, ↓reduceIte, Nat.reduceEqDiff, Nat.reduceAdd, Nat.reduceMul, Nat.reduceSub, Nat.reduceDiv, Nat.reduceLT, Nat.reduceLeDiff, Nat.reduceBEq, ne_eq, not_true_eq_false, not_false_eq_true, reduceCtorEq, if_true, if_false, eq_self, Nat.add_zero, Nat.zero_add, lit, lit_nn, I_nat, I_add, I_mul, I_sub, I_div, inb_t, I_ne, I_nn, nn_I, nn_lt, nn_le, lt_nn, le_nn, I_t, I_f, I_lt_t, I_lt_f, isb_0, isb_1, vz_0, vz_1, nn_nat]
  · refine Or.inl ⟨1, I 0, iS mm 40 (I 1), Or.inl rfl, ?_, ?_, rfl, h.thrown _⟩
    · simp (disch := omega) only [fX5_guard, hc, ck1, bd1, bx1, bx2, aS_at, iS_at, upd_at, ↓reduceIte, Nat.reduceEqDiff, Nat.reduceAdd, Nat.reduceMul, Nat.reduceSub, Nat.reduceDiv, Nat.reduceLT, Nat.reduceLeDiff, Nat.reduceBEq, ne_eq, not_true_eq_false, not_false_eq_true, reduceCtorEq, if_true, if_false, eq_self, Nat.add_zero, Nat.zero_add, lit, lit_nn, I_nat, I_add, I_mul, I_sub, I_div, inb_t, I_ne, I_nn, nn_I, nn_lt, nn_le, lt_nn, le_nn, I_t, I_f, I_lt_t, I_lt_f, isb_0, isb_1, vz_0, vz_1, nn_nat]
    · simp (disch := omega) only [fX6_guard_J27, fX6_guard, hm, fails_k, ck1, bd1, bx1, bx2, aS_at, iS_at, upd_at, ↓reduceIte, Nat.reduceEqDiff, Nat.reduceAdd, Nat.reduceMul, Nat.reduceSub, Nat.reduceDiv, Nat.reduceLT, Nat.reduceLeDiff, Nat.reduceBEq, ne_eq, not_true_eq_false, not_false_eq_true, reduceCtorEq, if_true, if_false, eq_self, Nat.add_zero, Nat.zero_add, lit, lit_nn, I_nat, I_add, I_mul, I_sub, I_div, inb_t, I_ne, I_nn, nn_I, nn_lt, nn_le, lt_nn, le_nn, I_t, I_f, I_lt_t, I_lt_f, isb_0, isb_1, vz_0, vz_1, nn_nat]
theorem bit_cases {a : Nat} (h1 : 1 ≤ a) (h2 : a ≤ 3) : fX0_bitOf (I a) = some (I (2 ^ (a - 1))) := by
  rcases (show a = 1 ∨ a = 2 ∨ a = 3 by omega) with rfl | rfl | rfl <;> decide
theorem lane_cases (x : Int32) : (∃ a, 1 ≤ a ∧ a ≤ 3 ∧ x = I a) ∨ (fX5_needLane x = some (.inr 1) ∧ fX6_isLane x = some (I 0)) := by
  by_cases h : inD x 1 4
  · obtain ⟨a, h1, h2, rfl⟩ := h
    exact Or.inl ⟨a, h1, by omega, rfl⟩
  · exact Or.inr ⟨needLane_f h, isLane_f h⟩
theorem sim_plain {N : Nat} {cs cw ct cl cb mm : St} (h : Rel N cs cw ct cl cb mm) (x1 x2 x3 : Int32) :
    (∃ k m', (k = 1) ∧ fX5_plain cl x1 x2 x3 = some (.inr k) ∧ fX6_plain mm x1 x2 x3 = some m' ∧ m' 40 0 = I k ∧ Rel N cs cw ct cl cb m') ∨
    (∃ cl' m', fX5_plain cl x1 x2 x3 = some (.inl cl') ∧ fX6_plain mm x1 x2 x3 = some m' ∧ m' 40 0 = I 0 ∧ Rel N cs cw ct cl' cb m') := by
  rcases port_cases x1 x2 with ⟨a, b, ha, hb, rfl, rfl⟩ | ⟨hc, hm⟩
  · obtain ⟨k, ek⟩ : ∃ k, k = 5 * a + b := ⟨_, rfl⟩
    have hk : k < 30 := by omega
    have e1 : a * 5 + b = k := by omega
    have e2 : 5 * a + b = k := by omega
    rcases lane_cases x3 with ⟨q, hq1, hq2, rfl⟩ | ⟨hc, hm⟩
    · refine Or.inr ⟨aS (aS cl 0 (I k) (I (2 ^ (q - 1)))) 1 (I k) (I q), aS (aS (iS mm 40 (I 0)) 7 (I k) (I 0)) 9 (I k) (I q), ?_, ?_, rfl, ?_⟩
      · simp (disch := omega) only [fX5_plain, fX5_spotOf, fX0_setUp, bit_cases hq1 hq2, needPort_t ha hb, needLane_t hq1 hq2, ck1, bd1, bx1, bx2, aS_at, iS_at, upd_at, ↓reduceIte, Nat.reduceEqDiff, Nat.reduceAdd, Nat.reduceMul, Nat.reduceSub, Nat.reduceDiv, Nat.reduceLT, Nat.reduceLeDiff, Nat.reduceBEq, ne_eq, not_true_eq_false, not_false_eq_true, reduceCtorEq, if_true, if_false, eq_self, Nat.add_zero, Nat.zero_add, lit, lit_nn, I_nat, I_add, I_mul, I_sub, I_div, inb_t, I_ne, I_nn, nn_I, nn_lt, nn_le, lt_nn, le_nn, I_t, I_f, I_lt_t, I_lt_f, isb_0, isb_1, vz_0, vz_1, nn_nat, e1]
      · simp (disch := omega) only [fX6_plain_J21, fX6_plain_J20, fX6_plain, isPort_t ha hb, isLane_t hq1 hq2, fails_0, ck1, bd1, bx1, bx2, aS_at, iS_at, upd_at, ↓reduceIte, Nat.reduceEqDiff, Nat.reduceAdd, Nat.reduceMul, Nat.reduceSub, Nat.reduceDiv, Nat.reduceLT, Nat.reduceLeDiff, Nat.reduceBEq, ne_eq, not_true_eq_false, not_false_eq_true, reduceCtorEq, if_true, if_false, eq_self, Nat.add_zero, Nat.zero_add, lit, lit_nn, I_nat, I_add, I_mul, I_sub, I_div, inb_t, I_ne, I_nn, nn_I, nn_lt, nn_le, lt_nn, le_nn, I_t, I_f, I_lt_t, I_lt_f, isb_0, isb_1, vz_0, vz_1, nn_nat, e2]
      · obtain ⟨p1, p2, p3, p4, p5, p6, p7, p8, p9, c1, c2, c3, c4, c5, c6, c7, c8, c9, c10⟩ := h
        refine ⟨p1, p2, p3, p4, ?_, p6, p7, p8, p9, c1, c2, c3, c4, ?_, c6, c7, c8, c9, c10⟩
        · intro j hj
          obtain ⟨d1, d2, d3⟩ := p5 j hj
          simp (disch := omega) only [ck1, bd1, bx1, bx2, aS_at, iS_at, upd_at, ↓reduceIte, Nat.reduceEqDiff, Nat.reduceAdd, Nat.reduceMul, Nat.reduceSub, Nat.reduceDiv, Nat.reduceLT, Nat.reduceLeDiff, Nat.reduceBEq, ne_eq, not_true_eq_false, not_false_eq_true, reduceCtorEq, if_true, if_false, eq_self, Nat.add_zero, Nat.zero_add, lit, lit_nn, I_nat, I_add, I_mul, I_sub, I_div, inb_t, I_ne, I_nn, nn_I, nn_lt, nn_le, lt_nn, le_nn, I_t, I_f, I_lt_t, I_lt_f, isb_0, isb_1, vz_0, vz_1, nn_nat]
          refine ⟨?_, d2, ?_⟩
          · split
            · exact ⟨0, by omega, rfl⟩
            · exact d1
          · split
            · exact ⟨q, hq1, hq2, rfl⟩
            · exact d3
        · intro j hj
          obtain ⟨d1, d2, d3⟩ := c5 j hj
          simp (disch := omega) only [ck1, bd1, bx1, bx2, aS_at, iS_at, upd_at, ↓reduceIte, Nat.reduceEqDiff, Nat.reduceAdd, Nat.reduceMul, Nat.reduceSub, Nat.reduceDiv, Nat.reduceLT, Nat.reduceLeDiff, Nat.reduceBEq, ne_eq, not_true_eq_false, not_false_eq_true, reduceCtorEq, if_true, if_false, eq_self, Nat.add_zero, Nat.zero_add, lit, lit_nn, I_nat, I_add, I_mul, I_sub, I_div, inb_t, I_ne, I_nn, nn_I, nn_lt, nn_le, lt_nn, le_nn, I_t, I_f, I_lt_t, I_lt_f, isb_0, isb_1, vz_0, vz_1, nn_nat]
          split
          · refine ⟨rfl, fun _ a' h1 h2 e => ?_, fun e => ?_⟩
            · rw [I_inj (by omega) (by omega)] at e; subst e; rfl
            · rw [I_inj (by omega) (by omega)] at e; omega
          · exact ⟨d1, d2, d3⟩
    · refine Or.inl ⟨1, iS mm 40 (I 1), rfl, ?_, ?_, rfl, h.thrown _⟩
      · simp (disch := omega) only [fX5_plain, needPort_t ha hb, hc, ck1, bd1, bx1, bx2, aS_at, iS_at, upd_at, ↓reduceIte, Nat.reduceEqDiff, Nat.reduceAdd, Nat.reduceMul, Nat.reduceSub, Nat.reduceDiv, Nat.reduceLT, Nat.reduceLeDiff, Nat.reduceBEq, ne_eq, not_true_eq_false, not_false_eq_true, reduceCtorEq, if_true, if_false, eq_self, Nat.add_zero, Nat.zero_add, lit, lit_nn, I_nat, I_add, I_mul, I_sub, I_div, inb_t, I_ne, I_nn, nn_I, nn_lt, nn_le, lt_nn, le_nn, I_t, I_f, I_lt_t, I_lt_f, isb_0, isb_1, vz_0, vz_1, nn_nat]
      · simp (disch := omega) only [fX6_plain_J21, fX6_plain_J20, fX6_plain, isPort_t ha hb, hm, fails_k, ck1, bd1, bx1, bx2, aS_at, iS_at, upd_at, ↓reduceIte, Nat.reduceEqDiff, Nat.reduceAdd, Nat.reduceMul, Nat.reduceSub, Nat.reduceDiv, Nat.reduceLT, Nat.reduceLeDiff, Nat.reduceBEq, ne_eq, not_true_eq_false, not_false_eq_true, reduceCtorEq, if_true, if_false, eq_self, Nat.add_zero, Nat.zero_add, lit, lit_nn, I_nat, I_add, I_mul, I_sub, I_div, inb_t, I_ne, I_nn, nn_I, nn_lt, nn_le, lt_nn, le_nn, I_t, I_f, I_lt_t, I_lt_f, isb_0, isb_1, vz_0, vz_1, nn_nat]
  · refine Or.inl ⟨1, iS mm 40 (I 1), rfl, ?_, ?_, rfl, h.thrown _⟩
    · simp (disch := omega) only [fX5_plain, hc, ck1, bd1, bx1, bx2, aS_at, iS_at, upd_at, ↓reduceIte, Nat.reduceEqDiff, Nat.reduceAdd, Nat.reduceMul, Nat.reduceSub, Nat.reduceDiv, Nat.reduceLT, Nat.reduceLeDiff, Nat.reduceBEq, ne_eq, not_true_eq_false, not_false_eq_true, reduceCtorEq, if_true, if_false, eq_self, Nat.add_zero, Nat.zero_add, lit, lit_nn, I_nat, I_add, I_mul, I_sub, I_div, inb_t, I_ne, I_nn, nn_I, nn_lt, nn_le, lt_nn, le_nn, I_t, I_f, I_lt_t, I_lt_f, isb_0, isb_1, vz_0, vz_1, nn_nat]
    · simp (disch := omega) only [fX6_plain_J21, fX6_plain_J20, fX6_plain, hm, fails_k, ck1, bd1, bx1, bx2, aS_at, iS_at, upd_at, ↓reduceIte, Nat.reduceEqDiff, Nat.reduceAdd, Nat.reduceMul, Nat.reduceSub, Nat.reduceDiv, Nat.reduceLT, Nat.reduceLeDiff, Nat.reduceBEq, ne_eq, not_true_eq_false, not_false_eq_true, reduceCtorEq, if_true, if_false, eq_self, Nat.add_zero, Nat.zero_add, lit, lit_nn, I_nat, I_add, I_mul, I_sub, I_div, inb_t, I_ne, I_nn, nn_I, nn_lt, nn_le, lt_nn, le_nn, I_t, I_f, I_lt_t, I_lt_f, isb_0, isb_1, vz_0, vz_1, nn_nat]
theorem sim_trunk {N : Nat} {cs cw ct cl cb mm : St} (h : Rel N cs cw ct cl cb mm) (x1 x2 x3 x4 : Int32) :
    (∃ k m', (k = 1 ∨ k = 2) ∧ fX5_trunk cl x1 x2 x3 x4 = some (.inr k) ∧ fX6_trunk mm x1 x2 x3 x4 = some m' ∧ m' 40 0 = I k ∧ Rel N cs cw ct cl cb m') ∨
    (∃ cl' m', fX5_trunk cl x1 x2 x3 x4 = some (.inl cl') ∧ fX6_trunk mm x1 x2 x3 x4 = some m' ∧ m' 40 0 = I 0 ∧ Rel N cs cw ct cl' cb m') := by
  rcases port_cases x1 x2 with ⟨a, b, ha, hb, rfl, rfl⟩ | ⟨hc, hm⟩
  · obtain ⟨k, ek⟩ : ∃ k, k = 5 * a + b := ⟨_, rfl⟩
    have hk : k < 30 := by omega
    have e1 : a * 5 + b = k := by omega
    have e2 : 5 * a + b = k := by omega
    rcases lane_cases x4 with ⟨q, hq1, hq2, rfl⟩ | ⟨hc, hm⟩
    · by_cases h2 : inD x3 1 8
      · refine Or.inr ⟨aS (aS cl 0 (I k) x3) 1 (I k) (I q), aS (aS (aS (iS mm 40 (I 0)) 7 (I k) (I 1)) 8 (I k) x3) 9 (I k) (I q), ?_, ?_, rfl, ?_⟩
        · simp (disch := omega) only [fX5_trunk, fX5_spotOf, fX0_setUp, needPort_t ha hb, needLane_t hq1 hq2, needWithin_t (a := 1) (b := 7) (by omega) h2, ck1, bd1, bx1, bx2, aS_at, iS_at, upd_at, ↓reduceIte, Nat.reduceEqDiff, Nat.reduceAdd, Nat.reduceMul, Nat.reduceSub, Nat.reduceDiv, Nat.reduceLT, Nat.reduceLeDiff, Nat.reduceBEq, ne_eq, not_true_eq_false, not_false_eq_true, reduceCtorEq, if_true, if_false, eq_self, Nat.add_zero, Nat.zero_add, lit, lit_nn, I_nat, I_add, I_mul, I_sub, I_div, inb_t, I_ne, I_nn, nn_I, nn_lt, nn_le, lt_nn, le_nn, I_t, I_f, I_lt_t, I_lt_f, isb_0, isb_1, vz_0, vz_1, nn_nat, e1]
        · simp (disch := omega) only [fX6_trunk_J36, fX6_trunk, isPort_t ha hb, isLane_t hq1 hq2, isIn_t (a := 1) (b := 7) (by omega) h2, fails_0, ck1, bd1, bx1, bx2, aS_at, iS_at, upd_at, ↓reduceIte, Nat.reduceEqDiff, Nat.reduceAdd, Nat.reduceMul, Nat.reduceSub, Nat.reduceDiv, Nat.reduceLT, Nat.reduceLeDiff, Nat.reduceBEq, ne_eq, not_true_eq_false, not_false_eq_true, reduceCtorEq, if_true, if_false, eq_self, Nat.add_zero, Nat.zero_add, lit, lit_nn, I_nat, I_add, I_mul, I_sub, I_div, inb_t, I_ne, I_nn, nn_I, nn_lt, nn_le, lt_nn, le_nn, I_t, I_f, I_lt_t, I_lt_f, isb_0, isb_1, vz_0, vz_1, nn_nat, e2]
        · obtain ⟨p1, p2, p3, p4, p5, p6, p7, p8, p9, c1, c2, c3, c4, c5, c6, c7, c8, c9, c10⟩ := h
          refine ⟨p1, p2, p3, p4, ?_, p6, p7, p8, p9, c1, c2, c3, c4, ?_, c6, c7, c8, c9, c10⟩
          · intro j hj
            obtain ⟨d1, d2, d3⟩ := p5 j hj
            obtain ⟨r, hr1, hr2, rfl⟩ := h2
            simp (disch := omega) only [ck1, bd1, bx1, bx2, aS_at, iS_at, upd_at, ↓reduceIte, Nat.reduceEqDiff, Nat.reduceAdd, Nat.reduceMul, Nat.reduceSub, Nat.reduceDiv, Nat.reduceLT, Nat.reduceLeDiff, Nat.reduceBEq, ne_eq, not_true_eq_false, not_false_eq_true, reduceCtorEq, if_true, if_false, eq_self, Nat.add_zero, Nat.zero_add, lit, lit_nn, I_nat, I_add, I_mul, I_sub, I_div, inb_t, I_ne, I_nn, nn_I, nn_lt, nn_le, lt_nn, le_nn, I_t, I_f, I_lt_t, I_lt_f, isb_0, isb_1, vz_0, vz_1, nn_nat]
            refine ⟨?_, ?_, ?_⟩
            · split
              · exact ⟨1, by omega, rfl⟩
              · exact d1
            · split
              · exact ⟨r, hr1, by omega, rfl⟩
              · exact d2
            · split
              · exact ⟨q, hq1, hq2, rfl⟩
              · exact d3
          · intro j hj
            obtain ⟨d1, d2, d3⟩ := c5 j hj
            simp (disch := omega) only [ck1, bd1, bx1, bx2, aS_at, iS_at, upd_at, ↓reduceIte, Nat.reduceEqDiff, Nat.reduceAdd, Nat.reduceMul, Nat.reduceSub, Nat.reduceDiv, Nat.reduceLT, Nat.reduceLeDiff, Nat.reduceBEq, ne_eq, not_true_eq_false, not_false_eq_true, reduceCtorEq, if_true, if_false, eq_self, Nat.add_zero, Nat.zero_add, lit, lit_nn, I_nat, I_add, I_mul, I_sub, I_div, inb_t, I_ne, I_nn, nn_I, nn_lt, nn_le, lt_nn, le_nn, I_t, I_f, I_lt_t, I_lt_f, isb_0, isb_1, vz_0, vz_1, nn_nat]
            split
            · refine ⟨rfl, fun e => ?_, fun _ => rfl⟩
              rw [I_inj (by omega) (by omega)] at e; omega
            · exact ⟨d1, d2, d3⟩
      · refine Or.inl ⟨2, iS mm 40 (I 2), Or.inr rfl, ?_, ?_, rfl, h.thrown _⟩
        · simp (disch := omega) only [fX5_trunk, needPort_t ha hb, needLane_t hq1 hq2, needWithin_f (a := 1) (b := 7) (by omega) (by omega) h2, ck1, bd1, bx1, bx2, aS_at, iS_at, upd_at, ↓reduceIte, Nat.reduceEqDiff, Nat.reduceAdd, Nat.reduceMul, Nat.reduceSub, Nat.reduceDiv, Nat.reduceLT, Nat.reduceLeDiff, Nat.reduceBEq, ne_eq, not_true_eq_false, not_false_eq_true, reduceCtorEq, if_true, if_false, eq_self, Nat.add_zero, Nat.zero_add, lit, lit_nn, I_nat, I_add, I_mul, I_sub, I_div, inb_t, I_ne, I_nn, nn_I, nn_lt, nn_le, lt_nn, le_nn, I_t, I_f, I_lt_t, I_lt_f, isb_0, isb_1, vz_0, vz_1, nn_nat]
        · simp (disch := omega) only [fX6_trunk_J36, fX6_trunk, isPort_t ha hb, isLane_t hq1 hq2, isIn_f (a := 1) (b := 7) (by omega) (by omega) h2, fails_k, ck1, bd1, bx1, bx2, aS_at, iS_at, upd_at, ↓reduceIte, Nat.reduceEqDiff, Nat.reduceAdd, Nat.reduceMul, Nat.reduceSub, Nat.reduceDiv, Nat.reduceLT, Nat.reduceLeDiff, Nat.reduceBEq, ne_eq, not_true_eq_false, not_false_eq_true, reduceCtorEq, if_true, if_false, eq_self, Nat.add_zero, Nat.zero_add, lit, lit_nn, I_nat, I_add, I_mul, I_sub, I_div, inb_t, I_ne, I_nn, nn_I, nn_lt, nn_le, lt_nn, le_nn, I_t, I_f, I_lt_t, I_lt_f, isb_0, isb_1, vz_0, vz_1, nn_nat]
    · refine Or.inl ⟨1, iS mm 40 (I 1), Or.inl rfl, ?_, ?_, rfl, h.thrown _⟩
      · simp (disch := omega) only [fX5_trunk, needPort_t ha hb, hc, ck1, bd1, bx1, bx2, aS_at, iS_at, upd_at, ↓reduceIte, Nat.reduceEqDiff, Nat.reduceAdd, Nat.reduceMul, Nat.reduceSub, Nat.reduceDiv, Nat.reduceLT, Nat.reduceLeDiff, Nat.reduceBEq, ne_eq, not_true_eq_false, not_false_eq_true, reduceCtorEq, if_true, if_false, eq_self, Nat.add_zero, Nat.zero_add, lit, lit_nn, I_nat, I_add, I_mul, I_sub, I_div, inb_t, I_ne, I_nn, nn_I, nn_lt, nn_le, lt_nn, le_nn, I_t, I_f, I_lt_t, I_lt_f, isb_0, isb_1, vz_0, vz_1, nn_nat]
      · simp (disch := omega) only [fX6_trunk_J36, fX6_trunk, isPort_t ha hb, hm, fails_k, ck1, bd1, bx1, bx2, aS_at, iS_at, upd_at, ↓reduceIte, Nat.reduceEqDiff, Nat.reduceAdd, Nat.reduceMul, Nat.reduceSub, Nat.reduceDiv, Nat.reduceLT, Nat.reduceLeDiff, Nat.reduceBEq, ne_eq, not_true_eq_false, not_false_eq_true, reduceCtorEq, if_true, if_false, eq_self, Nat.add_zero, Nat.zero_add, lit, lit_nn, I_nat, I_add, I_mul, I_sub, I_div, inb_t, I_ne, I_nn, nn_I, nn_lt, nn_le, lt_nn, le_nn, I_t, I_f, I_lt_t, I_lt_f, isb_0, isb_1, vz_0, vz_1, nn_nat]
  · refine Or.inl ⟨1, iS mm 40 (I 1), Or.inl rfl, ?_, ?_, rfl, h.thrown _⟩
    · simp (disch := omega) only [fX5_trunk, hc, ck1, bd1, bx1, bx2, aS_at, iS_at, upd_at, ↓reduceIte, Nat.reduceEqDiff, Nat.reduceAdd, Nat.reduceMul, Nat.reduceSub, Nat.reduceDiv, Nat.reduceLT, Nat.reduceLeDiff, Nat.reduceBEq, ne_eq, not_true_eq_false, not_false_eq_true, reduceCtorEq, if_true, if_false, eq_self, Nat.add_zero, Nat.zero_add, lit, lit_nn, I_nat, I_add, I_mul, I_sub, I_div, inb_t, I_ne, I_nn, nn_I, nn_lt, nn_le, lt_nn, le_nn, I_t, I_f, I_lt_t, I_lt_f, isb_0, isb_1, vz_0, vz_1, nn_nat]
    · simp (disch := omega) only [fX6_trunk_J36, fX6_trunk, hm, fails_k, ck1, bd1, bx1, bx2, aS_at, iS_at, upd_at, ↓reduceIte, Nat.reduceEqDiff, Nat.reduceAdd, Nat.reduceMul, Nat.reduceSub, Nat.reduceDiv, Nat.reduceLT, Nat.reduceLeDiff, Nat.reduceBEq, ne_eq, not_true_eq_false, not_false_eq_true, reduceCtorEq, if_true, if_false, eq_self, Nat.add_zero, Nat.zero_add, lit, lit_nn, I_nat, I_add, I_mul, I_sub, I_div, inb_t, I_ne, I_nn, nn_I, nn_lt, nn_le, lt_nn, le_nn, I_t, I_f, I_lt_t, I_lt_f, isb_0, isb_1, vz_0, vz_1, nn_nat]

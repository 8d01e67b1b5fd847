/-! ===== the law sets ranks, guards, lanes ===== -/
theorem lp_rank {N n : Nat} {cs cw ct cl cb cp cg : St} (h : LInv N n cs cw ct cl cb cg) {a b : Nat} (ha : a < 2147483648) (hb : b < 2147483648) :
    ∃ cs' cw' ct' cl' cb' cp' cg', fL_isPort cs cw ct cl cb cp cg 3 (I a) (I b) = some (I 1, cs', cw', ct', cl', cb', cp', cg') ∧ LInv N (n + 1) cs' cw' ct' cl' cb' cg' := by
  obtain ⟨p, ep⟩ : ∃ p, p = a % 30 := ⟨_, rfl⟩
  obtain ⟨r, er⟩ : ∃ r, r = b % 16 := ⟨_, rfl⟩
  have hp : p < 30 := by omega
  have hr16 : r < 16 := by omega
  have e30 : I a - I a / 30 * 30 = I p := by rw [show (30 : Int32) = I 30 from rfl, mod_I ha (by omega), ep]
  have e16 : I b - I b / 16 * 16 = I r := by rw [show (16 : Int32) = I 16 from rfl, mod_I hb (by omega), er]
  have hm : LInv N (n + 1) cs cw ct cl cb cg := h.mono (by omega)
  obtain ⟨⟨mm, hr⟩, ⟨c1, c2, c3, c4⟩, lw, lh, lk, g1, g2, g3, g4, g5, g6⟩ := id hm
  have ev : fX5_rank cw (I (p / 5)) (I r) = some (.inl (cw 5 (p / 5), aS cw 5 (I (p / 5)) (I r))) := by
    have n3 : fX5_needWithin (I r) (I 0) (I 15) = some (.inl ()) := needWithin_t (by omega) (inD_I (by omega) hr16)
    simp (disch := omega) only [fX5_rank, needSwitch_t (show p / 5 < 6 by omega), n3, ck1, bd1, bx1, bx2, aS_at, iS_at, upd_at, ↓reduceIte, Nat.reduceEqDiff, Nat.reduceAdd, Nat.reduceMul, Nat.reduceSub, Nat.reduceDiv, Nat.reduceLT, Nat.reduceLeDiff, Nat.reduceBEq, ne_eq, not_true_eq_false, not_false_eq_true, reduceCtorEq, if_true, if_false, eq_self, Nat.add_zero, Nat.zero_add, lit, lit_nn, I_nat, I_add, I_mul, I_sub, I_div, inb_t, I_ne, I_nn, nn_I, nn_lt, nn_le, lt_nn, le_nn, I_t, I_f, I_lt_t, I_lt_f, isb_0, isb_1, vz_0, vz_1, nn_nat]
  obtain ⟨mm', hr'⟩ : ∃ mm', Rel N cs (aS cw 5 (I (p / 5)) (I r)) ct cl cb mm' := by
    rcases sim_rank hr (I (p / 5)) (I r) with ⟨k, y, m', -, e, -⟩ | ⟨y, cw', m', e, -, -, e4⟩
    · rw [ev] at e; cases e
    · rw [ev] at e; cases e; exact ⟨m', e4⟩
  have ed : fL_does cs cw ct cl cb cp 3 (I (p / 5)) (I r) 0 0 0 = some (cw 5 (p / 5), cs, aS cw 5 (I (p / 5)) (I r), ct, cl, cb, cp) := by
    unfold fL_does
    rw [if_neg (by decide), if_neg (by decide), if_neg (by decide), if_pos rfl, ev]
    rfl
  refine ⟨cs, _, ct, cl, cb, cp, aS cg 3 (I (p / 5)) (I r), ?_, ⟨mm', hr'⟩, ⟨fun k hk => ?_, c2.drop (Less.refl _) fun i u hi hu => Or.inr fun f1 f2 => ⟨?_, f2⟩, c3, c4⟩, fun k hk => ?_, fun g' hg' => ?_, fun i hi => ?_, ?_, ?_, ?_, ?_, ?_, ?_⟩
  · unfold fL_isPort
    rw [if_neg (by decide), if_neg (by decide), if_neg (by decide), if_pos rfl, e30, e16, div5 (by omega), inb_t (show p / 5 < 6 by omega) (by omega), ck1, ck1, ed, bd1, I_nat (by omega), lk (p / 5) (by omega)]
    exact if_pos rfl
  · unfold XP
    simp (disch := omega) only [ck1, bd1, bx1, bx2, aS_at, iS_at, upd_at, ↓reduceIte, Nat.reduceEqDiff, Nat.reduceAdd, Nat.reduceMul, Nat.reduceSub, Nat.reduceDiv, Nat.reduceLT, Nat.reduceLeDiff, Nat.reduceBEq, ne_eq, not_true_eq_false, not_false_eq_true, reduceCtorEq, if_true, if_false, eq_self, Nat.add_zero, Nat.zero_add, lit, lit_nn, I_nat, I_add, I_mul, I_sub, I_div, inb_t, I_ne, I_nn, nn_I, nn_lt, nn_le, lt_nn, le_nn, I_t, I_f, I_lt_t, I_lt_f, isb_0, isb_1, vz_0, vz_1, nn_nat]
    exact c1 k hk
  · simp (disch := omega) only [ck1, bd1, bx1, bx2, aS_at, iS_at, upd_at, ↓reduceIte, Nat.reduceEqDiff, Nat.reduceAdd, Nat.reduceMul, Nat.reduceSub, Nat.reduceDiv, Nat.reduceLT, Nat.reduceLeDiff, Nat.reduceBEq, ne_eq, not_true_eq_false, not_false_eq_true, reduceCtorEq, if_true, if_false, eq_self, Nat.add_zero, Nat.zero_add, lit, lit_nn, I_nat, I_add, I_mul, I_sub, I_div, inb_t, I_ne, I_nn, nn_I, nn_lt, nn_le, lt_nn, le_nn, I_t, I_f, I_lt_t, I_lt_f, isb_0, isb_1, vz_0, vz_1, nn_nat]; exact f1
  · simp (disch := omega) only [ck1, bd1, bx1, bx2, aS_at, iS_at, upd_at, ↓reduceIte, Nat.reduceEqDiff, Nat.reduceAdd, Nat.reduceMul, Nat.reduceSub, Nat.reduceDiv, Nat.reduceLT, Nat.reduceLeDiff, Nat.reduceBEq, ne_eq, not_true_eq_false, not_false_eq_true, reduceCtorEq, if_true, if_false, eq_self, Nat.add_zero, Nat.zero_add, lit, lit_nn, I_nat, I_add, I_mul, I_sub, I_div, inb_t, I_ne, I_nn, nn_I, nn_lt, nn_le, lt_nn, le_nn, I_t, I_f, I_lt_t, I_lt_f, isb_0, isb_1, vz_0, vz_1, nn_nat]; exact lw k hk
  · simp (disch := omega) only [ck1, bd1, bx1, bx2, aS_at, iS_at, upd_at, ↓reduceIte, Nat.reduceEqDiff, Nat.reduceAdd, Nat.reduceMul, Nat.reduceSub, Nat.reduceDiv, Nat.reduceLT, Nat.reduceLeDiff, Nat.reduceBEq, ne_eq, not_true_eq_false, not_false_eq_true, reduceCtorEq, if_true, if_false, eq_self, Nat.add_zero, Nat.zero_add, lit, lit_nn, I_nat, I_add, I_mul, I_sub, I_div, inb_t, I_ne, I_nn, nn_I, nn_lt, nn_le, lt_nn, le_nn, I_t, I_f, I_lt_t, I_lt_f, isb_0, isb_1, vz_0, vz_1, nn_nat]; exact lh g' hg'
  · simp (disch := omega) only [ck1, bd1, bx1, bx2, aS_at, iS_at, upd_at, ↓reduceIte, Nat.reduceEqDiff, Nat.reduceAdd, Nat.reduceMul, Nat.reduceSub, Nat.reduceDiv, Nat.reduceLT, Nat.reduceLeDiff, Nat.reduceBEq, ne_eq, not_true_eq_false, not_false_eq_true, reduceCtorEq, if_true, if_false, eq_self, Nat.add_zero, Nat.zero_add, lit, lit_nn, I_nat, I_add, I_mul, I_sub, I_div, inb_t, I_ne, I_nn, nn_I, nn_lt, nn_le, lt_nn, le_nn, I_t, I_f, I_lt_t, I_lt_f, isb_0, isb_1, vz_0, vz_1, nn_nat]
    by_cases w : i = p / 5
    · rw [if_pos w, if_pos w]
    · rw [if_neg w, if_neg w]; exact lk i hi
  · simp (disch := omega) only [ck1, bd1, bx1, bx2, aS_at, iS_at, upd_at, ↓reduceIte, Nat.reduceEqDiff, Nat.reduceAdd, Nat.reduceMul, Nat.reduceSub, Nat.reduceDiv, Nat.reduceLT, Nat.reduceLeDiff, Nat.reduceBEq, ne_eq, not_true_eq_false, not_false_eq_true, reduceCtorEq, if_true, if_false, eq_self, Nat.add_zero, Nat.zero_add, lit, lit_nn, I_nat, I_add, I_mul, I_sub, I_div, inb_t, I_ne, I_nn, nn_I, nn_lt, nn_le, lt_nn, le_nn, I_t, I_f, I_lt_t, I_lt_f, isb_0, isb_1, vz_0, vz_1, nn_nat, g1]
  · simp (disch := omega) only [ck1, bd1, bx1, bx2, aS_at, iS_at, upd_at, ↓reduceIte, Nat.reduceEqDiff, Nat.reduceAdd, Nat.reduceMul, Nat.reduceSub, Nat.reduceDiv, Nat.reduceLT, Nat.reduceLeDiff, Nat.reduceBEq, ne_eq, not_true_eq_false, not_false_eq_true, reduceCtorEq, if_true, if_false, eq_self, Nat.add_zero, Nat.zero_add, lit, lit_nn, I_nat, I_add, I_mul, I_sub, I_div, inb_t, I_ne, I_nn, nn_I, nn_lt, nn_le, lt_nn, le_nn, I_t, I_f, I_lt_t, I_lt_f, isb_0, isb_1, vz_0, vz_1, nn_nat, g2]
  · simp (disch := omega) only [ck1, bd1, bx1, bx2, aS_at, iS_at, upd_at, ↓reduceIte, Nat.reduceEqDiff, Nat.reduceAdd, Nat.reduceMul, Nat.reduceSub, Nat.reduceDiv, Nat.reduceLT, Nat.reduceLeDiff, Nat.reduceBEq, ne_eq, not_true_eq_false, not_false_eq_true, reduceCtorEq, if_true, if_false, eq_self, Nat.add_zero, Nat.zero_add, lit, lit_nn, I_nat, I_add, I_mul, I_sub, I_div, inb_t, I_ne, I_nn, nn_I, nn_lt, nn_le, lt_nn, le_nn, I_t, I_f, I_lt_t, I_lt_f, isb_0, isb_1, vz_0, vz_1, nn_nat, g3]
  · simp (disch := omega) only [ck1, bd1, bx1, bx2, aS_at, iS_at, upd_at, ↓reduceIte, Nat.reduceEqDiff, Nat.reduceAdd, Nat.reduceMul, Nat.reduceSub, Nat.reduceDiv, Nat.reduceLT, Nat.reduceLeDiff, Nat.reduceBEq, ne_eq, not_true_eq_false, not_false_eq_true, reduceCtorEq, if_true, if_false, eq_self, Nat.add_zero, Nat.zero_add, lit, lit_nn, I_nat, I_add, I_mul, I_sub, I_div, inb_t, I_ne, I_nn, nn_I, nn_lt, nn_le, lt_nn, le_nn, I_t, I_f, I_lt_t, I_lt_f, isb_0, isb_1, vz_0, vz_1, nn_nat, g4]
  · simp (disch := omega) only [ck1, bd1, bx1, bx2, aS_at, iS_at, upd_at, ↓reduceIte, Nat.reduceEqDiff, Nat.reduceAdd, Nat.reduceMul, Nat.reduceSub, Nat.reduceDiv, Nat.reduceLT, Nat.reduceLeDiff, Nat.reduceBEq, ne_eq, not_true_eq_false, not_false_eq_true, reduceCtorEq, if_true, if_false, eq_self, Nat.add_zero, Nat.zero_add, lit, lit_nn, I_nat, I_add, I_mul, I_sub, I_div, inb_t, I_ne, I_nn, nn_I, nn_lt, nn_le, lt_nn, le_nn, I_t, I_f, I_lt_t, I_lt_f, isb_0, isb_1, vz_0, vz_1, nn_nat, g5]
  · simp (disch := omega) only [ck1, bd1, bx1, bx2, aS_at, iS_at, upd_at, ↓reduceIte, Nat.reduceEqDiff, Nat.reduceAdd, Nat.reduceMul, Nat.reduceSub, Nat.reduceDiv, Nat.reduceLT, Nat.reduceLeDiff, Nat.reduceBEq, ne_eq, not_true_eq_false, not_false_eq_true, reduceCtorEq, if_true, if_false, eq_self, Nat.add_zero, Nat.zero_add, lit, lit_nn, I_nat, I_add, I_mul, I_sub, I_div, inb_t, I_ne, I_nn, nn_I, nn_lt, nn_le, lt_nn, le_nn, I_t, I_f, I_lt_t, I_lt_f, isb_0, isb_1, vz_0, vz_1, nn_nat]; exact g6
theorem lp_guard {N n : Nat} {cs cw ct cl cb cp cg : St} (h : LInv N n cs cw ct cl cb cg) {a b : Nat} (ha : a < 2147483648) (hb : b < 2147483648) :
    ∃ cs' cw' ct' cl' cb' cp' cg', fL_isPort cs cw ct cl cb cp cg 5 (I a) (I b) = some (I 1, cs', cw', ct', cl', cb', cp', cg') ∧ LInv N (n + 1) cs' cw' ct' cl' cb' cg' := by
  obtain ⟨p, ep⟩ : ∃ p, p = a % 30 := ⟨_, rfl⟩
  obtain ⟨t, et⟩ : ∃ t, t = b % 4 := ⟨_, rfl⟩
  have hp : p < 30 := by omega
  have ht4 : t < 4 := by omega
  have e30 : I a - I a / 30 * 30 = I p := by rw [show (30 : Int32) = I 30 from rfl, mod_I ha (by omega), ep]
  have e4 : I b - I b / 4 * 4 = I t := by rw [show (4 : Int32) = I 4 from rfl, mod_I hb (by omega), et]
  have hm : LInv N (n + 1) cs cw ct cl cb cg := h.mono (by omega)
  obtain ⟨⟨mm, hr⟩, ⟨c1, c2, c3, c4⟩, lw, lh, lk, g1, g2, g3, g4, g5, g6⟩ := id hm
  have n1 := needPort_t (a := p / 5) (b := p % 5) (by omega) (by omega)
  have keep : aS cg 4 (I 3) (cg 4 3) = aS cg 4 (I 3) (cg 4 3) := rfl
  unfold fL_isPort
  rw [if_neg (by decide), if_neg (by decide), if_neg (by decide), if_neg (by decide), if_neg (by decide), if_pos rfl, e30, e4]
  have j545 : fL_isPort_J545 cs cw ct cl cb cp cg (I p) (I t) 3 = fL_isPort_J549 cs cw ct cl cb cp cg (I p) (I t) (cg 4 3) 3 := by
    unfold fL_isPort_J545
    rw [show inb 3 6 = true by decide, ck1]
    rfl
  -- the law's row behind it
  have law : ∀ (v : Int32) (cw' : St), (∀ k, k < 30 → cw' 0 k = cw 0 k ∧ cw' 1 k = cw 1 k ∧ cw' 2 k = cw 2 k) → cw' 4 = cw 4 → cw' 5 = cw 5 → cw' 6 = cw 6 → cw' 7 = cw 7 → (∃ mm', Rel N cs cw' ct cl cb mm') → (v = I 0 ∨ (v = I 1 ∧ ∀ k, k < 30 → cw' 3 k = I 0)) → LInv N (n + 1) cs cw' ct cl cb (aS cg 4 3 v) := by
    intro v cw' f f4 f5 f6 f7 hr' hv
    refine ⟨hr', ⟨fun k hk => ?_, c2.drop (Less.refl _) fun i u hi hu => Or.inr fun z1 z2 => ⟨?_, z2⟩, c3, c4⟩, fun k hk => ?_, fun g' hg' => ?_, fun i hi => ?_, ?_, ?_, ?_, ?_, ?_, ?_⟩
    · unfold XP
      rw [(f k hk).1, (f k hk).2.2]
      exact c1 k hk
    · rw [(f _ (by omega)).1, (f _ (by omega)).2.2]; exact z1
    · simp (disch := omega) only [ck1, bd1, bx1, bx2, aS_at, iS_at, upd_at, ↓reduceIte, Nat.reduceEqDiff, Nat.reduceAdd, Nat.reduceMul, Nat.reduceSub, Nat.reduceDiv, Nat.reduceLT, Nat.reduceLeDiff, Nat.reduceBEq, ne_eq, not_true_eq_false, not_false_eq_true, reduceCtorEq, if_true, if_false, eq_self, Nat.add_zero, Nat.zero_add, lit, lit_nn, I_nat, I_add, I_mul, I_sub, I_div, inb_t, I_ne, I_nn, nn_I, nn_lt, nn_le, lt_nn, le_nn, I_t, I_f, I_lt_t, I_lt_f, isb_0, isb_1, vz_0, vz_1, nn_nat]
      rw [(f k hk).1, (f k hk).2.1, (f k hk).2.2]
      exact lw k hk
    · simp (disch := omega) only [ck1, bd1, bx1, bx2, aS_at, iS_at, upd_at, ↓reduceIte, Nat.reduceEqDiff, Nat.reduceAdd, Nat.reduceMul, Nat.reduceSub, Nat.reduceDiv, Nat.reduceLT, Nat.reduceLeDiff, Nat.reduceBEq, ne_eq, not_true_eq_false, not_false_eq_true, reduceCtorEq, if_true, if_false, eq_self, Nat.add_zero, Nat.zero_add, lit, lit_nn, I_nat, I_add, I_mul, I_sub, I_div, inb_t, I_ne, I_nn, nn_I, nn_lt, nn_le, lt_nn, le_nn, I_t, I_f, I_lt_t, I_lt_f, isb_0, isb_1, vz_0, vz_1, nn_nat]; rw [f4]; exact lh g' hg'
    · simp (disch := omega) only [ck1, bd1, bx1, bx2, aS_at, iS_at, upd_at, ↓reduceIte, Nat.reduceEqDiff, Nat.reduceAdd, Nat.reduceMul, Nat.reduceSub, Nat.reduceDiv, Nat.reduceLT, Nat.reduceLeDiff, Nat.reduceBEq, ne_eq, not_true_eq_false, not_false_eq_true, reduceCtorEq, if_true, if_false, eq_self, Nat.add_zero, Nat.zero_add, lit, lit_nn, I_nat, I_add, I_mul, I_sub, I_div, inb_t, I_ne, I_nn, nn_I, nn_lt, nn_le, lt_nn, le_nn, I_t, I_f, I_lt_t, I_lt_f, isb_0, isb_1, vz_0, vz_1, nn_nat]; rw [f5]; exact lk i hi
    · simp (disch := omega) only [ck1, bd1, bx1, bx2, aS_at, iS_at, upd_at, ↓reduceIte, Nat.reduceEqDiff, Nat.reduceAdd, Nat.reduceMul, Nat.reduceSub, Nat.reduceDiv, Nat.reduceLT, Nat.reduceLeDiff, Nat.reduceBEq, ne_eq, not_true_eq_false, not_false_eq_true, reduceCtorEq, if_true, if_false, eq_self, Nat.add_zero, Nat.zero_add, lit, lit_nn, I_nat, I_add, I_mul, I_sub, I_div, inb_t, I_ne, I_nn, nn_I, nn_lt, nn_le, lt_nn, le_nn, I_t, I_f, I_lt_t, I_lt_f, isb_0, isb_1, vz_0, vz_1, nn_nat, f6, g1]
    · simp (disch := omega) only [ck1, bd1, bx1, bx2, aS_at, iS_at, upd_at, ↓reduceIte, Nat.reduceEqDiff, Nat.reduceAdd, Nat.reduceMul, Nat.reduceSub, Nat.reduceDiv, Nat.reduceLT, Nat.reduceLeDiff, Nat.reduceBEq, ne_eq, not_true_eq_false, not_false_eq_true, reduceCtorEq, if_true, if_false, eq_self, Nat.add_zero, Nat.zero_add, lit, lit_nn, I_nat, I_add, I_mul, I_sub, I_div, inb_t, I_ne, I_nn, nn_I, nn_lt, nn_le, lt_nn, le_nn, I_t, I_f, I_lt_t, I_lt_f, isb_0, isb_1, vz_0, vz_1, nn_nat, f7, g2]
    · simp (disch := omega) only [ck1, bd1, bx1, bx2, aS_at, iS_at, upd_at, ↓reduceIte, Nat.reduceEqDiff, Nat.reduceAdd, Nat.reduceMul, Nat.reduceSub, Nat.reduceDiv, Nat.reduceLT, Nat.reduceLeDiff, Nat.reduceBEq, ne_eq, not_true_eq_false, not_false_eq_true, reduceCtorEq, if_true, if_false, eq_self, Nat.add_zero, Nat.zero_add, lit, lit_nn, I_nat, I_add, I_mul, I_sub, I_div, inb_t, I_ne, I_nn, nn_I, nn_lt, nn_le, lt_nn, le_nn, I_t, I_f, I_lt_t, I_lt_f, isb_0, isb_1, vz_0, vz_1, nn_nat, g3]
    · simp (disch := omega) only [ck1, bd1, bx1, bx2, aS_at, iS_at, upd_at, ↓reduceIte, Nat.reduceEqDiff, Nat.reduceAdd, Nat.reduceMul, Nat.reduceSub, Nat.reduceDiv, Nat.reduceLT, Nat.reduceLeDiff, Nat.reduceBEq, ne_eq, not_true_eq_false, not_false_eq_true, reduceCtorEq, if_true, if_false, eq_self, Nat.add_zero, Nat.zero_add, lit, lit_nn, I_nat, I_add, I_mul, I_sub, I_div, inb_t, I_ne, I_nn, nn_I, nn_lt, nn_le, lt_nn, le_nn, I_t, I_f, I_lt_t, I_lt_f, isb_0, isb_1, vz_0, vz_1, nn_nat, g4]
    · simp (disch := omega) only [ck1, bd1, bx1, bx2, aS_at, iS_at, upd_at, ↓reduceIte, Nat.reduceEqDiff, Nat.reduceAdd, Nat.reduceMul, Nat.reduceSub, Nat.reduceDiv, Nat.reduceLT, Nat.reduceLeDiff, Nat.reduceBEq, ne_eq, not_true_eq_false, not_false_eq_true, reduceCtorEq, if_true, if_false, eq_self, Nat.add_zero, Nat.zero_add, lit, lit_nn, I_nat, I_add, I_mul, I_sub, I_div, inb_t, I_ne, I_nn, nn_I, nn_lt, nn_le, lt_nn, le_nn, I_t, I_f, I_lt_t, I_lt_f, isb_0, isb_1, vz_0, vz_1, nn_nat, g5]
    · simp (disch := omega) only [ck1, bd1, bx1, bx2, aS_at, iS_at, upd_at, ↓reduceIte, Nat.reduceEqDiff, Nat.reduceAdd, Nat.reduceMul, Nat.reduceSub, Nat.reduceDiv, Nat.reduceLT, Nat.reduceLeDiff, Nat.reduceBEq, ne_eq, not_true_eq_false, not_false_eq_true, reduceCtorEq, if_true, if_false, eq_self, Nat.add_zero, Nat.zero_add, lit, lit_nn, I_nat, I_add, I_mul, I_sub, I_div, inb_t, I_ne, I_nn, nn_I, nn_lt, nn_le, lt_nn, le_nn, I_t, I_f, I_lt_t, I_lt_f, isb_0, isb_1, vz_0, vz_1, nn_nat]; exact hv
  by_cases t3 : t = 3
  · subst t3
    rw [if_neg (show ¬ I 3 ≤ 0 by decide), if_pos (show (3 : Int32) ≤ I 3 by decide), j545]
    have ev : fX5_guard cw (I (p / 5)) (I (p % 5)) (I 3) = some (.inr 2) := by
      have n3 : fX5_needWithin (I 3) (I 0) (I 2) = some (.inr 2) := needWithin_f (by omega) (by omega) (by rintro ⟨w, w1, w2, w3⟩; rw [I_inj (by omega) (by omega)] at w3; omega)
      simp (disch := omega) only [fX5_guard, n1, n3, ck1, bd1, bx1, bx2, aS_at, iS_at, upd_at, ↓reduceIte, Nat.reduceEqDiff, Nat.reduceAdd, Nat.reduceMul, Nat.reduceSub, Nat.reduceDiv, Nat.reduceLT, Nat.reduceLeDiff, Nat.reduceBEq, ne_eq, not_true_eq_false, not_false_eq_true, reduceCtorEq, if_true, if_false, eq_self, Nat.add_zero, Nat.zero_add, lit, lit_nn, I_nat, I_add, I_mul, I_sub, I_div, inb_t, I_ne, I_nn, nn_I, nn_lt, nn_le, lt_nn, le_nn, I_t, I_f, I_lt_t, I_lt_f, isb_0, isb_1, vz_0, vz_1, nn_nat]
    have ed : fL_does cs cw ct cl cb cp 5 (I (p / 5)) (I (p % 5)) (I 3) 0 0 = some (xc 2, cs, cw, ct, cl, cb, cp) := by
      unfold fL_does
      rw [if_neg (by decide), if_neg (by decide), if_neg (by decide), if_neg (by decide), if_neg (by decide), if_pos rfl, ev]
      rfl
    refine ⟨cs, cw, ct, cl, cb, cp, aS cg 4 3 (cg 4 3), ?_, law _ cw (fun k hk => ⟨rfl, rfl, rfl⟩) rfl rfl rfl rfl ⟨mm, hr⟩ g6⟩
    unfold fL_isPort_J549
    rw [show inb 3 6 = true by decide, ck1, mod5 (by omega), div5 (by omega), ed, bd1, if_pos (show I 3 = 3 from rfl)]
    exact if_pos rfl
  · have ht3 : t < 3 := by omega
    have ev : fX5_guard cw (I (p / 5)) (I (p % 5)) (I t) = some (.inl (cw 3 p, aS cw 3 (I p) (I t))) := by
      have n3 : fX5_needWithin (I t) (I 0) (I 2) = some (.inl ()) := needWithin_t (by omega) (inD_I (by omega) ht3)
      simp (disch := omega) only [fX5_guard, n1, n3, spotN hp, ck1, bd1, bx1, bx2, aS_at, iS_at, upd_at, ↓reduceIte, Nat.reduceEqDiff, Nat.reduceAdd, Nat.reduceMul, Nat.reduceSub, Nat.reduceDiv, Nat.reduceLT, Nat.reduceLeDiff, Nat.reduceBEq, ne_eq, not_true_eq_false, not_false_eq_true, reduceCtorEq, if_true, if_false, eq_self, Nat.add_zero, Nat.zero_add, lit, lit_nn, I_nat, I_add, I_mul, I_sub, I_div, inb_t, I_ne, I_nn, nn_I, nn_lt, nn_le, lt_nn, le_nn, I_t, I_f, I_lt_t, I_lt_f, isb_0, isb_1, vz_0, vz_1, nn_nat]
    obtain ⟨mm', hr'⟩ : ∃ mm', Rel N cs (aS cw 3 (I p) (I t)) ct cl cb mm' := by
      rcases sim_guard hr (I (p / 5)) (I (p % 5)) (I t) with ⟨k, y, m', -, e, -⟩ | ⟨y, cw', m', e, -, -, e4⟩
      · rw [ev] at e; cases e
      · rw [ev] at e; cases e; exact ⟨m', e4⟩
    have ed : fL_does cs cw ct cl cb cp 5 (I (p / 5)) (I (p % 5)) (I t) 0 0 = some (cw 3 p, cs, aS cw 3 (I p) (I t), ct, cl, cb, cp) := by
      unfold fL_does
      rw [if_neg (by decide), if_neg (by decide), if_neg (by decide), if_neg (by decide), if_neg (by decide), if_pos rfl, ev]
      rfl
    obtain ⟨w, hw, ew⟩ := rel_guard hr hp
    have j549 : ∀ v, fL_isPort_J549 cs cw ct cl cb cp cg (I p) (I t) v 3 = some (I 1, cs, aS cw 3 (I p) (I t), ct, cl, cb, cp, aS cg 4 3 v) := by
      intro v
      unfold fL_isPort_J549
      rw [show inb 3 6 = true by decide, ck1, mod5 (by omega), div5 (by omega), ed, bd1, if_neg (show ¬ I t = 3 by rw [lit, I_inj (by omega) (by omega)]; exact t3)]
      dsimp only
      rw [ew, if_neg (show ¬ I w < 0 by rw [zeroI, I_f (by omega) (by omega)]; exact fun z => z), if_neg (show ¬ (3 : Int32) ≤ I w by rw [lit, I_lt_f (by omega) (by omega)]; exact fun z => z)]
      rfl
    have fr : ∀ k, k < 30 → aS cw 3 (I p) (I t) 0 k = cw 0 k ∧ aS cw 3 (I p) (I t) 1 k = cw 1 k ∧ aS cw 3 (I p) (I t) 2 k = cw 2 k := fun k hk => ⟨by rw [aS_ne _ _ _ _ (by decide)], by rw [aS_ne _ _ _ _ (by decide)], by rw [aS_ne _ _ _ _ (by decide)]⟩
    by_cases t0 : t = 0
    · subst t0
      rw [if_pos (show I 0 ≤ 0 by decide), j545]
      refine ⟨_, _, _, _, _, _, _, j549 _, law _ _ fr (aS_ne _ _ _ _ (by decide)) (aS_ne _ _ _ _ (by decide)) (aS_ne _ _ _ _ (by decide)) (aS_ne _ _ _ _ (by decide)) ⟨mm', hr'⟩ ?_⟩
      rcases g6 with g6 | ⟨g6, g7⟩
      · exact Or.inl g6
      · refine Or.inr ⟨g6, fun k hk => ?_⟩
        rw [aS_I _ _ (by omega)]
        by_cases e : k = p
        · rw [if_pos e]
        · rw [if_neg e]; exact g7 k hk
    · rw [if_neg (show ¬ I t ≤ 0 by rw [zeroI, I_lt_f (by omega) (by omega)]; exact fun z => z), if_neg (show ¬ (3 : Int32) ≤ I t by rw [lit, I_lt_f (by omega) (by omega)]; exact fun z => z)]
      exact ⟨_, _, _, _, _, _, _, j549 _, law _ _ fr (aS_ne _ _ _ _ (by decide)) (aS_ne _ _ _ _ (by decide)) (aS_ne _ _ _ _ (by decide)) (aS_ne _ _ _ _ (by decide)) ⟨mm', hr'⟩ (Or.inl rfl)⟩
theorem lp_lanes {N n : Nat} {cs cw ct cl cb cg : St} (h : LInv N n cs cw ct cl cb cg) {cl' : St} (hr : ∃ mm', Rel N cs cw ct cl' cb mm') : LInv N (n + 1) cs cw ct cl' cb cg := by
  obtain ⟨-, h2, h3⟩ := h.mono (Nat.le_succ n)
  exact ⟨hr, h2, h3⟩
theorem lp_plain {N n : Nat} {cs cw ct cl cb cp cg : St} (h : LInv N n cs cw ct cl cb cg) {a b : Nat} (ha : a < 2147483648) (hb : b < 2147483648) :
    ∃ cs' cw' ct' cl' cb' cp' cg', fL_isPort cs cw ct cl cb cp cg 6 (I a) (I b) = some (I 1, cs', cw', ct', cl', cb', cp', cg') ∧ LInv N (n + 1) cs' cw' ct' cl' cb' cg' := by
  obtain ⟨p, ep⟩ : ∃ p, p = a % 30 := ⟨_, rfl⟩
  obtain ⟨t, et⟩ : ∃ t, t = b % 4 := ⟨_, rfl⟩
  have hp : p < 30 := by omega
  have ht4 : t < 4 := by omega
  have e30 : I a - I a / 30 * 30 = I p := by rw [show (30 : Int32) = I 30 from rfl, mod_I ha (by omega), ep]
  have e4 : I b - I b / 4 * 4 = I t := by rw [show (4 : Int32) = I 4 from rfl, mod_I hb (by omega), et]
  obtain ⟨⟨mm, hr⟩, -⟩ := id h
  have n1 := needPort_t (a := p / 5) (b := p % 5) (by omega) (by omega)
  unfold fL_isPort
  rw [if_neg (by decide), if_neg (by decide), if_neg (by decide), if_neg (by decide), if_neg (by decide), if_neg (by decide), if_pos rfl, e30, e4, mod5 (by omega), div5 (by omega)]
  by_cases t0 : t = 0
  · subst t0
    have n2 : fX5_needLane (I 0) = some (.inr 1) := needLane_f (by rintro ⟨w, w1, w2, w3⟩; rw [I_inj (by omega) (by omega)] at w3; omega)
    have ev : fX5_plain cl (I (p / 5)) (I (p % 5)) (I 0) = some (.inr 1) := by
      simp (disch := omega) only [fX5_plain, n1, n2, ck1, bd1, bx1, bx2, aS_at, iS_at, upd_at, ↓reduceIte, Nat.reduceEqDiff, Nat.reduceAdd, Nat.reduceMul, Nat.reduceSub, Nat.reduceDiv, Nat.reduceLT, Nat.reduceLeDiff, Nat.reduceBEq, ne_eq, not_true_eq_false, not_false_eq_true, reduceCtorEq, if_true, if_false, eq_self, Nat.add_zero, Nat.zero_add, lit, lit_nn, I_nat, I_add, I_mul, I_sub, I_div, inb_t, I_ne, I_nn, nn_I, nn_lt, nn_le, lt_nn, le_nn, I_t, I_f, I_lt_t, I_lt_f, isb_0, isb_1, vz_0, vz_1, nn_nat]
    have ed : fL_does cs cw ct cl cb cp 6 (I (p / 5)) (I (p % 5)) (I 0) 0 0 = some (xc 1, cs, cw, ct, cl, cb, cp) := by
      unfold fL_does fL_plained
      rw [if_neg (by decide), if_neg (by decide), if_neg (by decide), if_neg (by decide), if_neg (by decide), if_neg (by decide), if_pos rfl, ev]
      rfl
    refine ⟨cs, cw, ct, cl, cb, cp, cg, ?_, h.mono (by omega)⟩
    rw [ed, bd1, if_pos z00]
    rfl
  · obtain ⟨cl', ev⟩ : ∃ cl', fX5_plain cl (I (p / 5)) (I (p % 5)) (I t) = some (.inl cl') := by
      refine ⟨aS (aS cl 0 (I p) (I (2 ^ (t - 1)))) 1 (I p) (I t), ?_⟩
      simp (disch := omega) only [fX5_plain, n1, needLane_t (show 1 ≤ t by omega) (show t ≤ 3 by omega), bit_cases (show 1 ≤ t by omega) (show t ≤ 3 by omega), spotN hp, fX0_setUp, ck1, bd1, bx1, bx2, aS_at, iS_at, upd_at, ↓reduceIte, Nat.reduceEqDiff, Nat.reduceAdd, Nat.reduceMul, Nat.reduceSub, Nat.reduceDiv, Nat.reduceLT, Nat.reduceLeDiff, Nat.reduceBEq, ne_eq, not_true_eq_false, not_false_eq_true, reduceCtorEq, if_true, if_false, eq_self, Nat.add_zero, Nat.zero_add, lit, lit_nn, I_nat, I_add, I_mul, I_sub, I_div, inb_t, I_ne, I_nn, nn_I, nn_lt, nn_le, lt_nn, le_nn, I_t, I_f, I_lt_t, I_lt_f, isb_0, isb_1, vz_0, vz_1, nn_nat]
    have ed : fL_does cs cw ct cl cb cp 6 (I (p / 5)) (I (p % 5)) (I t) 0 0 = some (0, cs, cw, ct, cl', cb, cp) := by
      unfold fL_does fL_plained
      rw [if_neg (by decide), if_neg (by decide), if_neg (by decide), if_neg (by decide), if_neg (by decide), if_neg (by decide), if_pos rfl, ev]
      rfl
    refine ⟨cs, cw, ct, cl', cb, cp, cg, ?_, lp_lanes h ?_⟩
    · rw [ed, bd1, if_neg (show ¬ I t = 0 by rw [zeroI, I_inj (by omega) (by omega)]; exact t0)]
      rfl
    · rcases sim_plain hr (I (p / 5)) (I (p % 5)) (I t) with ⟨k, m', -, e, -⟩ | ⟨cl2, m', e, -, -, e4⟩
      · rw [ev] at e; cases e
      · rw [ev] at e; cases e; exact ⟨m', e4⟩
theorem lp_trunk {N n : Nat} {cs cw ct cl cb cp cg : St} (h : LInv N n cs cw ct cl cb cg) {a b : Nat} (ha : a < 2147483648) (hb : b < 2147483648) :
    ∃ cs' cw' ct' cl' cb' cp' cg', fL_isPort cs cw ct cl cb cp cg 7 (I a) (I b) = some (I 1, cs', cw', ct', cl', cb', cp', cg') ∧ LInv N (n + 1) cs' cw' ct' cl' cb' cg' := by
  obtain ⟨p, ep⟩ : ∃ p, p = a % 30 := ⟨_, rfl⟩
  obtain ⟨s, es⟩ : ∃ s, s = b % 9 := ⟨_, rfl⟩
  obtain ⟨t, et⟩ : ∃ t, t = b / 9 % 4 := ⟨_, rfl⟩
  have hp : p < 30 := by omega
  have hs9 : s < 9 := by omega
  have ht4 : t < 4 := by omega
  have e30 : I a - I a / 30 * 30 = I p := by rw [show (30 : Int32) = I 30 from rfl, mod_I ha (by omega), ep]
  have e9 : I b - I b / 9 * 9 = I s := by rw [show (9 : Int32) = I 9 from rfl, mod_I hb (by omega), es]
  have e4 : I b / 9 - I b / 9 / 4 * 4 = I t := by rw [show (9 : Int32) = I 9 from rfl, show (4 : Int32) = I 4 from rfl, I_div hb (by omega), mod_I (by omega) (by omega), et]
  obtain ⟨⟨mm, hr⟩, -⟩ := id h
  have n1 := needPort_t (a := p / 5) (b := p % 5) (by omega) (by omega)
  unfold fL_isPort
  rw [if_neg (by decide), if_neg (by decide), if_neg (by decide), if_neg (by decide), if_neg (by decide), if_neg (by decide), if_neg (by decide), e30, e9, e4, mod5 (by omega), div5 (by omega)]
  have dn (x3 x4 : Int32) : fL_does cs cw ct cl cb cp 7 (I (p / 5)) (I (p % 5)) x3 x4 0 = hxb (fL_trunked cl (I (p / 5)) (I (p % 5)) x3 x4) (fun q131 => some (q131.1, cs, cw, ct, (q131.2), cb, cp)) (fun kx => if kx = 1 then some ((-3000), cs, cw, ct, cl, cb, cp) else if kx = 2 then some ((-2000), cs, cw, ct, cl, cb, cp) else if kx = 3 then some ((-1000), cs, cw, ct, cl, cb, cp) else none) := by
    unfold fL_does
    rw [if_neg (by decide), if_neg (by decide), if_neg (by decide), if_neg (by decide), if_neg (by decide), if_neg (by decide), if_neg (by decide), if_pos rfl]
  by_cases t0 : t = 0
  · subst t0
    have n2 : fX5_needLane (I 0) = some (.inr 1) := needLane_f (by rintro ⟨w, w1, w2, w3⟩; rw [I_inj (by omega) (by omega)] at w3; omega)
    have ev : fX5_trunk cl (I (p / 5)) (I (p % 5)) (I s) (I 0) = some (.inr 1) := by
      simp (disch := omega) only [fX5_trunk, n1, n2, ck1, bd1, bx1, bx2, aS_at, iS_at, upd_at, ↓reduceIte, Nat.reduceEqDiff, Nat.reduceAdd, Nat.reduceMul, Nat.reduceSub, Nat.reduceDiv, Nat.reduceLT, Nat.reduceLeDiff, Nat.reduceBEq, ne_eq, not_true_eq_false, not_false_eq_true, reduceCtorEq, if_true, if_false, eq_self, Nat.add_zero, Nat.zero_add, lit, lit_nn, I_nat, I_add, I_mul, I_sub, I_div, inb_t, I_ne, I_nn, nn_I, nn_lt, nn_le, lt_nn, le_nn, I_t, I_f, I_lt_t, I_lt_f, isb_0, isb_1, vz_0, vz_1, nn_nat]
    have ed : fL_does cs cw ct cl cb cp 7 (I (p / 5)) (I (p % 5)) (I s) (I 0) 0 = some (xc 1, cs, cw, ct, cl, cb, cp) := by
      rw [dn]
      unfold fL_trunked
      rw [ev]
      rfl
    refine ⟨cs, cw, ct, cl, cb, cp, cg, ?_, h.mono (by omega)⟩
    rw [ed, bd1, if_pos z00]
    rfl
  · have n2 := needLane_t (show 1 ≤ t by omega) (show t ≤ 3 by omega)
    have nt : ¬ I t = 0 := by rw [zeroI, I_inj (by omega) (by omega)]; exact t0
    by_cases s0 : s = 0 ∨ s = 8
    · have n3 : fX5_needWithin (I s) (I 1) (I 7) = some (.inr 2) := needWithin_f (by omega) (by omega) (by rintro ⟨w, w1, w2, w3⟩; rw [I_inj (by omega) (by omega)] at w3; omega)
      have ev : fX5_trunk cl (I (p / 5)) (I (p % 5)) (I s) (I t) = some (.inr 2) := by
        simp (disch := omega) only [fX5_trunk, n1, n2, n3, ck1, bd1, bx1, bx2, aS_at, iS_at, upd_at, ↓reduceIte, Nat.reduceEqDiff, Nat.reduceAdd, Nat.reduceMul, Nat.reduceSub, Nat.reduceDiv, Nat.reduceLT, Nat.reduceLeDiff, Nat.reduceBEq, ne_eq, not_true_eq_false, not_false_eq_true, reduceCtorEq, if_true, if_false, eq_self, Nat.add_zero, Nat.zero_add, lit, lit_nn, I_nat, I_add, I_mul, I_sub, I_div, inb_t, I_ne, I_nn, nn_I, nn_lt, nn_le, lt_nn, le_nn, I_t, I_f, I_lt_t, I_lt_f, isb_0, isb_1, vz_0, vz_1, nn_nat]
      have ed : fL_does cs cw ct cl cb cp 7 (I (p / 5)) (I (p % 5)) (I s) (I t) 0 = some (xc 2, cs, cw, ct, cl, cb, cp) := by
        rw [dn]
        unfold fL_trunked
        rw [ev]
        rfl
      refine ⟨cs, cw, ct, cl, cb, cp, cg, ?_, h.mono (by omega)⟩
      rw [ed, bd1, if_neg nt]
      rcases s0 with rfl | rfl <;> rfl
    · have n3 : fX5_needWithin (I s) (I 1) (I 7) = some (.inl ()) := needWithin_t (by omega) (inD_I (by omega) (by omega))
      obtain ⟨cl', ev⟩ : ∃ cl', fX5_trunk cl (I (p / 5)) (I (p % 5)) (I s) (I t) = some (.inl cl') := by
        refine ⟨aS (aS cl 0 (I p) (I s)) 1 (I p) (I t), ?_⟩
        simp (disch := omega) only [fX5_trunk, n1, n2, n3, spotN hp, fX0_setUp, ck1, bd1, bx1, bx2, aS_at, iS_at, upd_at, ↓reduceIte, Nat.reduceEqDiff, Nat.reduceAdd, Nat.reduceMul, Nat.reduceSub, Nat.reduceDiv, Nat.reduceLT, Nat.reduceLeDiff, Nat.reduceBEq, ne_eq, not_true_eq_false, not_false_eq_true, reduceCtorEq, if_true, if_false, eq_self, Nat.add_zero, Nat.zero_add, lit, lit_nn, I_nat, I_add, I_mul, I_sub, I_div, inb_t, I_ne, I_nn, nn_I, nn_lt, nn_le, lt_nn, le_nn, I_t, I_f, I_lt_t, I_lt_f, isb_0, isb_1, vz_0, vz_1, nn_nat]
      have ed : fL_does cs cw ct cl cb cp 7 (I (p / 5)) (I (p % 5)) (I s) (I t) 0 = some (0, cs, cw, ct, cl', cb, cp) := by
        rw [dn]
        unfold fL_trunked
        rw [ev]
        rfl
      refine ⟨cs, cw, ct, cl', cb, cp, cg, ?_, lp_lanes h ?_⟩
      · rw [ed, bd1, if_neg nt, if_neg (show ¬ I s = 0 by rw [zeroI, I_inj (by omega) (by omega)]; omega), if_neg (show ¬ I s = 8 by rw [lit, I_inj (by omega) (by omega)]; omega)]
        rfl
      · rcases sim_trunk hr (I (p / 5)) (I (p % 5)) (I s) (I t) with ⟨k, m', -, e, -⟩ | ⟨cl2, m', e, -, -, e4⟩
        · rw [ev] at e; cases e
        · rw [ev] at e; cases e; exact ⟨m', e4⟩

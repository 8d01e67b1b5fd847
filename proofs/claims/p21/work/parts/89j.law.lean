/-! ===== a turn of the law ===== -/
theorem and_pos (v : Int32) : ∃ q, q < 2147483648 ∧ v &&& 2147483647 = I q := by
  have h1 : (v &&& 2147483647).toBitVec.toNat ≤ 2147483647 := by
    rw [Int32.toBitVec_and, BitVec.toNat_and]
    exact Nat.and_le_right
  have h2 : (v &&& 2147483647).toInt = ((v &&& 2147483647).toBitVec.toNat : Int) := by
    show (v &&& 2147483647).toBitVec.toInt = _
    exact BitVec.toInt_eq_toNat_of_lt (by omega)
  have h0 : 0 ≤ v &&& 2147483647 := by
    rw [Int32.le_iff_toInt_le, h2]
    exact Int.natCast_nonneg _
  refine ⟨(v &&& 2147483647).toNatClampNeg, Int32.toNatClampNeg_lt _, (Int32.ofNat_toNatClampNeg _ h0).symm⟩
theorem part_25 (v : Int32) {n : Nat} (hn : 0 < n) (hn2 : n < 2147483648) : ∃ m, m < n ∧ fL_part_J25 v (I n) = some (I m) := by
  obtain ⟨q, hq, e⟩ := and_pos v
  refine ⟨q % n, Nat.mod_lt _ hn, ?_⟩
  unfold fL_part_J25
  have d : decide (¬ I n = 0) = true := by
    rw [decide_eq_true_eq, zeroI, I_inj hn2 (by omega)]
    omega
  rw [d, ck1, e, mod_I hq hn2]
theorem part_eval (L : Nat) (xs : Nat → Int32) (hL : L ≤ 260) {k n : Nat} (hk : k < 1000) (hn : 0 < n) (hn2 : n < 2147483648) : ∃ m, m < n ∧ fL_part L xs (I k) (I n) = some (I m) := by
  unfold fL_part
  by_cases c : Int32.ofNat L ≤ I k
  · rw [if_pos c]
    exact part_25 _ hn hn2
  · rw [if_neg c]
    have hk2 : k < L := by
      have c2 : ¬ I L ≤ I k := c
      rw [I_le (by omega) (by omega)] at c2
      omega
    rw [inb_t hk2 (by omega), ck1]
    exact part_25 _ hn hn2
theorem lp_wire {N n : Nat} {cs cw ct cl cb cp cg : St} (h : LInv N n cs cw ct cl cb cg) {a b : Nat} (ha : a < 2147483648) (hb : b < 2147483648) :
    ∃ cs' cw' ct' cl' cb' cp' cg', fL_isPort cs cw ct cl cb cp cg 0 (I a) (I b) = some (I 1, cs', cw', ct', cl', cb', cp', cg') ∧ LInv N (n + 1) cs' cw' ct' cl' cb' cg' := by
  have e30 : I a - I a / 30 * 30 = I (a % 30) := by rw [show (30 : Int32) = I 30 from rfl, mod_I ha (by omega)]
  have eo : I a / 30 - I a / 30 / 30 * 30 = I (a / 30 % 30) := by rw [show (30 : Int32) = I 30 from rfl, I_div ha (by omega), mod_I (by omega) (by omega)]
  have e20 : 1 + (I b - I b / 20 * 20) = I (1 + b % 20) := by
    rw [show (20 : Int32) = I 20 from rfl, mod_I hb (by omega)]
    exact I_add 1 _
  have g := lp_wire_go (cp := cp) h (p := a % 30) (o := a / 30 % 30) (c := 1 + b % 20) (by omega) (by omega) (by omega) (by omega)
  unfold fL_isPort
  rw [if_pos rfl, e30, eo, e20, div5 (by omega), div5 (by omega)]
  by_cases e : a % 30 / 5 = a / 30 % 30 / 5
  · rw [if_pos e] at g
    rw [if_pos (by rw [e])]
    exact g
  · rw [if_neg e] at g
    rw [if_neg (by rw [I_inj (by omega) (by omega)]; exact e)]
    exact g
/-- behind each call: all is looked at -/
theorem law_look {N n L : Nat} {xs : Nat → Int32} {cs cw ct cu cl cb cp cg : St} (h : LInv N n cs cw ct cl cb cg) (hN : N + 2 ≤ 100000) (hn : n ≤ 90) (j : Nat) : ∃ ct' cu', LInv N n cs cw ct' cl cb cg ∧ ∀ rec, fL_law_J572 L xs rec cs cw ct cu cl cb cp cg (I 1) (I j) = rec (cs, cw, ct', cu', cl, cb, cp, cg, I 1, I (j + 1)) := by
  obtain ⟨f, ef⟩ := all_eval h hn
  have h' := h.way f
  obtain ⟨⟨mm, hr⟩, -, -, -, -, -, -, -, -, -, g6⟩ := id h'
  obtain ⟨v, cu', m', hv, er, -⟩ := sim_rest hr hN cu
  have i3 : inb 3 6 = true := by decide
  have n3 : (3 : Int32).toNatClampNeg = 3 := by decide
  rcases g6 with g | ⟨g, hg⟩
  · refine ⟨pF ct 15 f, cu, h', fun rec => ?_⟩
    unfold fL_law_J572
    rw [if_neg z10, ef, bd1, if_neg z10, i3, ck1, n3, if_pos (show cg 4 3 = 0 from g), I_succ]
    rfl
  · have gn : ¬ cg 4 3 = 0 := by rw [g]; decide
    refine ⟨pF ct 15 f, cu', h', fun rec => ?_⟩
    unfold fL_law_J572
    rw [if_neg z10, ef, bd1, if_neg z10, i3, ck1, n3, if_neg gn, er, bd1]
    by_cases v0 : v = 0
    · subst v0
      rw [if_pos z00, I_succ]
      rfl
    · have v1 : v = 1 := by omega
      subst v1
      obtain ⟨R, C, H, hf⟩ := rest_facts h' hg _ er rfl
      rw [if_neg z10, tree_eval h' hf, bd1, if_neg z10, I_succ]
      rfl
theorem LInv.up {N M n : Nat} {cs cw ct cl cb cg : St} (h : LInv N n cs cw ct cl cb cg) (h1 : N ≤ M) (h2 : M ≤ 100000) : LInv M n cs cw ct cl cb cg := by
  obtain ⟨⟨mm, hr⟩, h3⟩ := h
  exact ⟨⟨mm, hr.mono h1 h2⟩, h3⟩
theorem law_limit {N n : Nat} {cs cw ct cl cb cg : St} (h : LInv N n cs cw ct cl cb cg) {q : Nat} (h1 : 1 ≤ q) (h2 : q ≤ 100) : ∃ cs', fX5_limit cs (I q) = some (.inl (cg 4 5, cs')) ∧ LInv N (n + 1) cs' cw ct cl cb (aS cg 4 5 (I q)) := by
  obtain ⟨⟨mm, hr⟩, ⟨c1, c2, c3, c4⟩, lw, lh, lk, g1, g2, g3, g4, g5, g6⟩ := h.mono (Nat.le_succ n)
  have ev : fX5_limit cs (I q) = some (.inl (cs 9 0, iS cs 9 (I q))) := by
    have n3 : fX5_needWithin (I q) (I 1) (I 100) = some (.inl ()) := needWithin_t (by omega) (inD_I h1 (by omega))
    simp (disch := omega) only [fX5_limit, n3, ck1, bd1, bx1, bx2, aS_at, iS_at, upd_at, ↓reduceIte, Nat.reduceEqDiff, Nat.reduceAdd, Nat.reduceMul, Nat.reduceSub, Nat.reduceDiv, Nat.reduceLT, Nat.reduceLeDiff, Nat.reduceBEq, ne_eq, not_true_eq_false, not_false_eq_true, reduceCtorEq, if_true, if_false, eq_self, Nat.add_zero, Nat.zero_add, lit, lit_nn, I_nat, I_add, I_mul, I_sub, I_div, inb_t, I_ne, I_nn, nn_I, nn_lt, nn_le, lt_nn, le_nn, I_t, I_f, I_lt_t, I_lt_f, isb_0, isb_1, vz_0, vz_1, nn_nat]
  obtain ⟨mm', hr'⟩ : ∃ mm', Rel N (iS cs 9 (I q)) cw ct cl cb mm' := by
    rcases sim_limit hr (I q) with ⟨k, y, m', -, e, -⟩ | ⟨y, cs', m', e, -, -, e4⟩
    · rw [ev] at e; cases e
    · rw [ev] at e; cases e; exact ⟨m', e4⟩
  refine ⟨iS cs 9 (I q), by rw [ev, g4], ⟨mm', hr'⟩, ⟨c1, c2, c3, c4⟩, fun k hk => ?_, fun g' hg' => ?_, fun i hi => ?_, ?_, ?_, ?_, ?_, ?_, ?_⟩
  · simp (disch := omega) only [ck1, bd1, bx1, bx2, aS_at, iS_at, upd_at, ↓reduceIte, Nat.reduceEqDiff, Nat.reduceAdd, Nat.reduceMul, Nat.reduceSub, Nat.reduceDiv, Nat.reduceLT, Nat.reduceLeDiff, Nat.reduceBEq, ne_eq, not_true_eq_false, not_false_eq_true, reduceCtorEq, if_true, if_false, eq_self, Nat.add_zero, Nat.zero_add, lit, lit_nn, I_nat, I_add, I_mul, I_sub, I_div, inb_t, I_ne, I_nn, nn_I, nn_lt, nn_le, lt_nn, le_nn, I_t, I_f, I_lt_t, I_lt_f, isb_0, isb_1, vz_0, vz_1, nn_nat]; exact lw k hk
  · simp (disch := omega) only [ck1, bd1, bx1, bx2, aS_at, iS_at, upd_at, ↓reduceIte, Nat.reduceEqDiff, Nat.reduceAdd, Nat.reduceMul, Nat.reduceSub, Nat.reduceDiv, Nat.reduceLT, Nat.reduceLeDiff, Nat.reduceBEq, ne_eq, not_true_eq_false, not_false_eq_true, reduceCtorEq, if_true, if_false, eq_self, Nat.add_zero, Nat.zero_add, lit, lit_nn, I_nat, I_add, I_mul, I_sub, I_div, inb_t, I_ne, I_nn, nn_I, nn_lt, nn_le, lt_nn, le_nn, I_t, I_f, I_lt_t, I_lt_f, isb_0, isb_1, vz_0, vz_1, nn_nat]; exact lh g' hg'
  · simp (disch := omega) only [ck1, bd1, bx1, bx2, aS_at, iS_at, upd_at, ↓reduceIte, Nat.reduceEqDiff, Nat.reduceAdd, Nat.reduceMul, Nat.reduceSub, Nat.reduceDiv, Nat.reduceLT, Nat.reduceLeDiff, Nat.reduceBEq, ne_eq, not_true_eq_false, not_false_eq_true, reduceCtorEq, if_true, if_false, eq_self, Nat.add_zero, Nat.zero_add, lit, lit_nn, I_nat, I_add, I_mul, I_sub, I_div, inb_t, I_ne, I_nn, nn_I, nn_lt, nn_le, lt_nn, le_nn, I_t, I_f, I_lt_t, I_lt_f, isb_0, isb_1, vz_0, vz_1, nn_nat]; exact lk i hi
  · simp (disch := omega) only [ck1, bd1, bx1, bx2, aS_at, iS_at, upd_at, ↓reduceIte, Nat.reduceEqDiff, Nat.reduceAdd, Nat.reduceMul, Nat.reduceSub, Nat.reduceDiv, Nat.reduceLT, Nat.reduceLeDiff, Nat.reduceBEq, ne_eq, not_true_eq_false, not_false_eq_true, reduceCtorEq, if_true, if_false, eq_self, Nat.add_zero, Nat.zero_add, lit, lit_nn, I_nat, I_add, I_mul, I_sub, I_div, inb_t, I_ne, I_nn, nn_I, nn_lt, nn_le, lt_nn, le_nn, I_t, I_f, I_lt_t, I_lt_f, isb_0, isb_1, vz_0, vz_1, nn_nat, g1]
  · simp (disch := omega) only [ck1, bd1, bx1, bx2, aS_at, iS_at, upd_at, ↓reduceIte, Nat.reduceEqDiff, Nat.reduceAdd, Nat.reduceMul, Nat.reduceSub, Nat.reduceDiv, Nat.reduceLT, Nat.reduceLeDiff, Nat.reduceBEq, ne_eq, not_true_eq_false, not_false_eq_true, reduceCtorEq, if_true, if_false, eq_self, Nat.add_zero, Nat.zero_add, lit, lit_nn, I_nat, I_add, I_mul, I_sub, I_div, inb_t, I_ne, I_nn, nn_I, nn_lt, nn_le, lt_nn, le_nn, I_t, I_f, I_lt_t, I_lt_f, isb_0, isb_1, vz_0, vz_1, nn_nat, g2]
  · simp (disch := omega) only [ck1, bd1, bx1, bx2, aS_at, iS_at, upd_at, ↓reduceIte, Nat.reduceEqDiff, Nat.reduceAdd, Nat.reduceMul, Nat.reduceSub, Nat.reduceDiv, Nat.reduceLT, Nat.reduceLeDiff, Nat.reduceBEq, ne_eq, not_true_eq_false, not_false_eq_true, reduceCtorEq, if_true, if_false, eq_self, Nat.add_zero, Nat.zero_add, lit, lit_nn, I_nat, I_add, I_mul, I_sub, I_div, inb_t, I_ne, I_nn, nn_I, nn_lt, nn_le, lt_nn, le_nn, I_t, I_f, I_lt_t, I_lt_f, isb_0, isb_1, vz_0, vz_1, nn_nat, g3]
  · simp (disch := omega) only [ck1, bd1, bx1, bx2, aS_at, iS_at, upd_at, ↓reduceIte, Nat.reduceEqDiff, Nat.reduceAdd, Nat.reduceMul, Nat.reduceSub, Nat.reduceDiv, Nat.reduceLT, Nat.reduceLeDiff, Nat.reduceBEq, ne_eq, not_true_eq_false, not_false_eq_true, reduceCtorEq, if_true, if_false, eq_self, Nat.add_zero, Nat.zero_add, lit, lit_nn, I_nat, I_add, I_mul, I_sub, I_div, inb_t, I_ne, I_nn, nn_I, nn_lt, nn_le, lt_nn, le_nn, I_t, I_f, I_lt_t, I_lt_f, isb_0, isb_1, vz_0, vz_1, nn_nat]
  · simp (disch := omega) only [ck1, bd1, bx1, bx2, aS_at, iS_at, upd_at, ↓reduceIte, Nat.reduceEqDiff, Nat.reduceAdd, Nat.reduceMul, Nat.reduceSub, Nat.reduceDiv, Nat.reduceLT, Nat.reduceLeDiff, Nat.reduceBEq, ne_eq, not_true_eq_false, not_false_eq_true, reduceCtorEq, if_true, if_false, eq_self, Nat.add_zero, Nat.zero_add, lit, lit_nn, I_nat, I_add, I_mul, I_sub, I_div, inb_t, I_ne, I_nn, nn_I, nn_lt, nn_le, lt_nn, le_nn, I_t, I_f, I_lt_t, I_lt_f, isb_0, isb_1, vz_0, vz_1, nn_nat, g5]
    unfold all7
    rw [iS_ne _ _ _ (by decide)]
  · simp (disch := omega) only [ck1, bd1, bx1, bx2, aS_at, iS_at, upd_at, ↓reduceIte, Nat.reduceEqDiff, Nat.reduceAdd, Nat.reduceMul, Nat.reduceSub, Nat.reduceDiv, Nat.reduceLT, Nat.reduceLeDiff, Nat.reduceBEq, ne_eq, not_true_eq_false, not_false_eq_true, reduceCtorEq, if_true, if_false, eq_self, Nat.add_zero, Nat.zero_add, lit, lit_nn, I_nat, I_add, I_mul, I_sub, I_div, inb_t, I_ne, I_nn, nn_I, nn_lt, nn_le, lt_nn, le_nn, I_t, I_f, I_lt_t, I_lt_f, isb_0, isb_1, vz_0, vz_1, nn_nat]; exact g6
theorem law_beat {N n : Nat} {cs cw ct cl cb cg : St} (h : LInv N n cs cw ct cl cb cg) (hN : N + 60 ≤ 100000) {b : Nat} (h1 : 1 ≤ b) (h2 : b ≤ 30) : ∃ cs' ct' cb', fX5_beat cs cw ct cb (I b) = some (.inl (cg 4 2 + I b, cs', ct', cb')) ∧ LInv (N + 60) (n + 1) cs' cw ct' cl cb' (aS cg 4 2 (cg 4 2 + I b)) := by
  obtain ⟨⟨mm, hr⟩, ⟨c1, c2, c3, c4⟩, lw, lh, lk, g1, g2, g3, g4, g5, g6⟩ := h.mono (Nat.le_succ n)
  have pb := p_beat cs cw ct cb (rel_one hr) (show b < 1000 by omega)
  have nw : fX5_needWithin (I b) (I 1) (I 30) = some (.inl ()) := needWithin_t (by omega) (inD_I h1 (by omega))
  rcases sim_beat hr hN (I b) with ⟨k, r, m', ek, e, -⟩ | ⟨r, cs', ct', cb', m', e, -, -, e4⟩
  · exfalso
    unfold fX5_beat at e
    rw [show (1 : Int32) = I 1 from rfl, show (30 : Int32) = I 30 from rfl, nw, bx1] at e
    -- the loop answers what it holds
    have nt : Pc (fX5_beat_L9 cw (I b) cs ct cb 0) (fun r => ∃ a, r = .inl a) := by
      unfold fX5_beat_L9
      refine pc_loop (fun _ => True) (fun rec hr a _ => ?_) _ _ trivial
      unfold fX5_beat_S9
      exact pc_if (fun _ => pc_some ⟨_, rfl⟩) (fun _ => pc_bd pc_any fun r _ => hr _ trivial)
    obtain ⟨a, ea⟩ := nt _ e
    cases ea
  · obtain ⟨p1, p2, p3, p4, p5, p6, p7, p8⟩ := pb _ e _ rfl
    dsimp only at p1 p2 p3 p4 p5 p6 p7 p8
    refine ⟨cs', ct', cb', by rw [e, p1, g3], ⟨m', e4⟩, ⟨p5 c1, p7 c2, p6 c3, fun k hk => ⟨0, by rw [p8 (by omega) k hk], by omega⟩⟩, fun k hk => ?_, fun g' hg' => ?_, fun i hi => ?_, ?_, ?_, ?_, ?_, ?_, ?_⟩
    · simp (disch := omega) only [ck1, bd1, bx1, bx2, aS_at, iS_at, upd_at, ↓reduceIte, Nat.reduceEqDiff, Nat.reduceAdd, Nat.reduceMul, Nat.reduceSub, Nat.reduceDiv, Nat.reduceLT, Nat.reduceLeDiff, Nat.reduceBEq, ne_eq, not_true_eq_false, not_false_eq_true, reduceCtorEq, if_true, if_false, eq_self, Nat.add_zero, Nat.zero_add, lit, lit_nn, I_nat, I_add, I_mul, I_sub, I_div, inb_t, I_ne, I_nn, nn_I, nn_lt, nn_le, lt_nn, le_nn, I_t, I_f, I_lt_t, I_lt_f, isb_0, isb_1, vz_0, vz_1, nn_nat]; exact lw k hk
    · simp (disch := omega) only [ck1, bd1, bx1, bx2, aS_at, iS_at, upd_at, ↓reduceIte, Nat.reduceEqDiff, Nat.reduceAdd, Nat.reduceMul, Nat.reduceSub, Nat.reduceDiv, Nat.reduceLT, Nat.reduceLeDiff, Nat.reduceBEq, ne_eq, not_true_eq_false, not_false_eq_true, reduceCtorEq, if_true, if_false, eq_self, Nat.add_zero, Nat.zero_add, lit, lit_nn, I_nat, I_add, I_mul, I_sub, I_div, inb_t, I_ne, I_nn, nn_I, nn_lt, nn_le, lt_nn, le_nn, I_t, I_f, I_lt_t, I_lt_f, isb_0, isb_1, vz_0, vz_1, nn_nat]; exact lh g' hg'
    · simp (disch := omega) only [ck1, bd1, bx1, bx2, aS_at, iS_at, upd_at, ↓reduceIte, Nat.reduceEqDiff, Nat.reduceAdd, Nat.reduceMul, Nat.reduceSub, Nat.reduceDiv, Nat.reduceLT, Nat.reduceLeDiff, Nat.reduceBEq, ne_eq, not_true_eq_false, not_false_eq_true, reduceCtorEq, if_true, if_false, eq_self, Nat.add_zero, Nat.zero_add, lit, lit_nn, I_nat, I_add, I_mul, I_sub, I_div, inb_t, I_ne, I_nn, nn_I, nn_lt, nn_le, lt_nn, le_nn, I_t, I_f, I_lt_t, I_lt_f, isb_0, isb_1, vz_0, vz_1, nn_nat]; exact lk i hi
    · simp (disch := omega) only [ck1, bd1, bx1, bx2, aS_at, iS_at, upd_at, ↓reduceIte, Nat.reduceEqDiff, Nat.reduceAdd, Nat.reduceMul, Nat.reduceSub, Nat.reduceDiv, Nat.reduceLT, Nat.reduceLeDiff, Nat.reduceBEq, ne_eq, not_true_eq_false, not_false_eq_true, reduceCtorEq, if_true, if_false, eq_self, Nat.add_zero, Nat.zero_add, lit, lit_nn, I_nat, I_add, I_mul, I_sub, I_div, inb_t, I_ne, I_nn, nn_I, nn_lt, nn_le, lt_nn, le_nn, I_t, I_f, I_lt_t, I_lt_f, isb_0, isb_1, vz_0, vz_1, nn_nat, g1]
    · simp (disch := omega) only [ck1, bd1, bx1, bx2, aS_at, iS_at, upd_at, ↓reduceIte, Nat.reduceEqDiff, Nat.reduceAdd, Nat.reduceMul, Nat.reduceSub, Nat.reduceDiv, Nat.reduceLT, Nat.reduceLeDiff, Nat.reduceBEq, ne_eq, not_true_eq_false, not_false_eq_true, reduceCtorEq, if_true, if_false, eq_self, Nat.add_zero, Nat.zero_add, lit, lit_nn, I_nat, I_add, I_mul, I_sub, I_div, inb_t, I_ne, I_nn, nn_I, nn_lt, nn_le, lt_nn, le_nn, I_t, I_f, I_lt_t, I_lt_f, isb_0, isb_1, vz_0, vz_1, nn_nat, g2]
    · rw [p4]
      simp (disch := omega) only [ck1, bd1, bx1, bx2, aS_at, iS_at, upd_at, ↓reduceIte, Nat.reduceEqDiff, Nat.reduceAdd, Nat.reduceMul, Nat.reduceSub, Nat.reduceDiv, Nat.reduceLT, Nat.reduceLeDiff, Nat.reduceBEq, ne_eq, not_true_eq_false, not_false_eq_true, reduceCtorEq, if_true, if_false, eq_self, Nat.add_zero, Nat.zero_add, lit, lit_nn, I_nat, I_add, I_mul, I_sub, I_div, inb_t, I_ne, I_nn, nn_I, nn_lt, nn_le, lt_nn, le_nn, I_t, I_f, I_lt_t, I_lt_f, isb_0, isb_1, vz_0, vz_1, nn_nat, g3]
    · rw [p2 9 (by decide)]
      simp (disch := omega) only [ck1, bd1, bx1, bx2, aS_at, iS_at, upd_at, ↓reduceIte, Nat.reduceEqDiff, Nat.reduceAdd, Nat.reduceMul, Nat.reduceSub, Nat.reduceDiv, Nat.reduceLT, Nat.reduceLeDiff, Nat.reduceBEq, ne_eq, not_true_eq_false, not_false_eq_true, reduceCtorEq, if_true, if_false, eq_self, Nat.add_zero, Nat.zero_add, lit, lit_nn, I_nat, I_add, I_mul, I_sub, I_div, inb_t, I_ne, I_nn, nn_I, nn_lt, nn_le, lt_nn, le_nn, I_t, I_f, I_lt_t, I_lt_f, isb_0, isb_1, vz_0, vz_1, nn_nat, g4]
    · unfold all7
      rw [p2 7 (by decide)]
      simp (disch := omega) only [ck1, bd1, bx1, bx2, aS_at, iS_at, upd_at, ↓reduceIte, Nat.reduceEqDiff, Nat.reduceAdd, Nat.reduceMul, Nat.reduceSub, Nat.reduceDiv, Nat.reduceLT, Nat.reduceLeDiff, Nat.reduceBEq, ne_eq, not_true_eq_false, not_false_eq_true, reduceCtorEq, if_true, if_false, eq_self, Nat.add_zero, Nat.zero_add, lit, lit_nn, I_nat, I_add, I_mul, I_sub, I_div, inb_t, I_ne, I_nn, nn_I, nn_lt, nn_le, lt_nn, le_nn, I_t, I_f, I_lt_t, I_lt_f, isb_0, isb_1, vz_0, vz_1, nn_nat]; exact g5
    · simp (disch := omega) only [ck1, bd1, bx1, bx2, aS_at, iS_at, upd_at, ↓reduceIte, Nat.reduceEqDiff, Nat.reduceAdd, Nat.reduceMul, Nat.reduceSub, Nat.reduceDiv, Nat.reduceLT, Nat.reduceLeDiff, Nat.reduceBEq, ne_eq, not_true_eq_false, not_false_eq_true, reduceCtorEq, if_true, if_false, eq_self, Nat.add_zero, Nat.zero_add, lit, lit_nn, I_nat, I_add, I_mul, I_sub, I_div, inb_t, I_ne, I_nn, nn_I, nn_lt, nn_le, lt_nn, le_nn, I_t, I_f, I_lt_t, I_lt_f, isb_0, isb_1, vz_0, vz_1, nn_nat]; exact g6

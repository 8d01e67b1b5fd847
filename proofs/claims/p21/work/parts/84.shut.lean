/-! ===== the law shuts a port, or not any more ===== -/
theorem p_shut (cw ct cb : St) {p : Nat} (hp : p < 30) : Pc (fX5_shut cw ct cb (I (p / 5)) (I (p % 5))) (fun r =>
    (ct 5 p = I 0 ∧ ∃ cb', r = .inl (I 1, aS (aS (aS (aS ct 5 (I p) nn) 6 (I p) (I 0)) 7 (I p) (I 0)) 8 (I p) (I 0), cb') ∧ Less cb cb' ∧ NoWay p cb') ∨
    (ct 5 p ≠ I 0 ∧ r = .inl (I 0, aS (aS ct 5 (I p) (I 0)) 6 (I p) (if cw 2 p ≠ nn then I 1 else I 0), cb))) := by
  have n1 := needPort_t (a := p / 5) (b := p % 5) (by omega) (by omega)
  unfold fX5_shut
  rw [n1, bx1, spotN hp, bd1]
  refine pc_bd (p_isShut ct (I p)) fun q hq => ?_
  obtain ⟨k, hk, ek, hq⟩ := hq
  rw [I_inj (by omega) (by omega)] at ek
  subst ek
  rcases hq with ⟨rfl, h5⟩ | ⟨rfl, h5⟩
  · rw [if_pos z00]
    unfold fX5_shutUntil
    refine pc_bd (Ψ := fun r => r.1 = aS (aS (aS (aS ct 5 (I p) nn) 6 (I p) (I 0)) 7 (I p) (I 0)) 8 (I p) (I 0) ∧ Less cb r.2 ∧ NoWay p r.2) (pc_bd (p_beginShut _ _ _) fun c hc => pc_bd (p_forget cb hp) fun d hd => pc_some ?_) fun r hr => pc_some ?_
    · obtain ⟨j, hj, ej, rfl⟩ := hc
      rw [I_inj (by omega) (by omega)] at ej
      subst ej
      exact ⟨rfl, hd.1, hd.2⟩
    · refine Or.inl ⟨h5, r.2, ?_, hr.2.1, hr.2.2⟩
      rw [hr.1]
      rfl
  · rw [if_neg z10]
    refine pc_bd (p_endShut ct cw (I p)) fun c hc => pc_some ?_
    obtain ⟨j, hj, ej, rfl⟩ := hc
    rw [I_inj (by omega) (by omega)] at ej
    subst ej
    exact Or.inr ⟨h5, rfl⟩
theorem port2 (cs ct : St) {p : Nat} (hp : p < 30) : (ct 5 p = I 0 → fX5_port cs ct (I (p / 5)) (I (p % 5)) 2 = some (.inl (I 0))) ∧ (ct 5 p ≠ I 0 → fX5_port cs ct (I (p / 5)) (I (p % 5)) 2 = some (.inl (I 1))) := by
  have n1 := needPort_t (a := p / 5) (b := p % 5) (by omega) (by omega)
  refine ⟨fun h => ?_, fun h => ?_⟩
  · simp (disch := omega) only [fX5_port, n1, spotN hp, isShut_t ct hp h, ck1, bd1, bx1, bx2, aS_at, iS_at, upd_at, ↓reduceIte, Nat.reduceEqDiff, Nat.reduceAdd, Nat.reduceMul, Nat.reduceSub, Nat.reduceDiv, Nat.reduceLT, Nat.reduceLeDiff, Nat.reduceBEq, ne_eq, not_true_eq_false, not_false_eq_true, reduceCtorEq, if_true, if_false, eq_self, Nat.add_zero, Nat.zero_add, lit, lit_nn, I_nat, I_add, I_mul, I_sub, I_div, inb_t, I_ne, I_nn, nn_I, nn_lt, nn_le, lt_nn, le_nn, I_t, I_f, I_lt_t, I_lt_f, isb_0, isb_1, vz_0, vz_1, nn_nat]
  · simp (disch := omega) only [fX5_port, n1, spotN hp, isShut_f ct hp h, ck1, bd1, bx1, bx2, aS_at, iS_at, upd_at, ↓reduceIte, Nat.reduceEqDiff, Nat.reduceAdd, Nat.reduceMul, Nat.reduceSub, Nat.reduceDiv, Nat.reduceLT, Nat.reduceLeDiff, Nat.reduceBEq, ne_eq, not_true_eq_false, not_false_eq_true, reduceCtorEq, if_true, if_false, eq_self, Nat.add_zero, Nat.zero_add, lit, lit_nn, I_nat, I_add, I_mul, I_sub, I_div, inb_t, I_ne, I_nn, nn_I, nn_lt, nn_le, lt_nn, le_nn, I_t, I_f, I_lt_t, I_lt_f, isb_0, isb_1, vz_0, vz_1, nn_nat]
theorem does_shut {cs cw ct cl cb cp ct' cb' : St} {x2 x3 x4 x5 x6 r : Int32} (hr : r = I 0 ∨ r = I 1) (h : fX5_shut cw ct cb x2 x3 = some (.inl (r, ct', cb'))) : fL_does cs cw ct cl cb cp 4 x2 x3 x4 x5 x6 = some (r, cs, cw, ct', cl, cb', cp) := by
  unfold fL_does
  rw [if_neg (by decide), if_neg (by decide), if_neg (by decide), if_neg (by decide), if_pos rfl, h]
  rcases hr with rfl | rfl <;> rfl
theorem lp_shut {N n : Nat} {cs cw ct cl cb cp cg : St} (h : LInv N n cs cw ct cl cb cg) {a b : Nat} (ha : a < 2147483648) :
    ∃ cs' cw' ct' cl' cb' cp' cg', fL_isPort cs cw ct cl cb cp cg 4 (I a) (I b) = some (I 1, cs', cw', ct', cl', cb', cp', cg') ∧ LInv N (n + 1) cs' cw' ct' cl' cb' cg' := by
  obtain ⟨p, ep⟩ : ∃ p, p = a % 30 := ⟨_, rfl⟩
  have hp : p < 30 := by omega
  have e30 : I a - I a / 30 * 30 = I p := by rw [show (30 : Int32) = I 30 from rfl, mod_I ha (by omega), ep]
  unfold fL_isPort
  rw [if_neg (by decide), if_neg (by decide), if_neg (by decide), if_neg (by decide), if_pos rfl, e30, mod5 (by omega), div5 (by omega)]
  have hm : LInv N (n + 1) cs cw ct cl cb cg := h.mono (by omega)
  obtain ⟨⟨mm, hr⟩, ⟨c1, c2, c3, c4⟩, lw, lh, lk, g1, g2, g3, g4, g5, g6⟩ := id hm
  have ho := rel_one hr
  have pf := p_shut cw ct cb hp
  obtain ⟨q1, q2⟩ := port2 cs ct hp
  by_cases h5 : ct 5 p = I 0
  · rw [q1 h5]
    obtain ⟨cb', ef, l1, l2, mm', hr'⟩ : ∃ cb', fX5_shut cw ct cb (I (p / 5)) (I (p % 5)) = some (.inl (I 1, aS (aS (aS (aS ct 5 (I p) nn) 6 (I p) (I 0)) 7 (I p) (I 0)) 8 (I p) (I 0), cb')) ∧ Less cb cb' ∧ NoWay p cb' ∧ ∃ mm', Rel N cs cw (aS (aS (aS (aS ct 5 (I p) nn) 6 (I p) (I 0)) 7 (I p) (I 0)) 8 (I p) (I 0)) cl cb' mm' := by
      rcases sim_shut hr (I (p / 5)) (I (p % 5)) with ⟨r, m', e, -⟩ | ⟨r, ct', cb', m', -, e, -, -, e4⟩
      · rcases pf _ e with ⟨-, cb', y, -⟩ | ⟨-, y⟩ <;> cases y
      · rcases pf _ e with ⟨-, cb2, y, y1, y2⟩ | ⟨y, -⟩
        · cases y
          exact ⟨_, e, y1, y2, m', e4⟩
        · exact absurd h5 y
    refine ⟨cs, cw, _, cl, cb', cp, cg, ?_, ⟨mm', hr'⟩, ⟨c1.begin hp nn_ne0, c2.drop l1 fun i u hi hu => ?_, fun s hs => ?_, c4⟩, lw, lh, lk, g1, g2, ?_, g4, g5, g6⟩
    · obtain ⟨r1, r2⟩ := port2 cs (aS (aS (aS (aS ct 5 (I p) nn) 6 (I p) (I 0)) 7 (I p) (I 0)) 8 (I p) (I 0)) hp
      have e5 : aS (aS (aS (aS ct 5 (I p) nn) 6 (I p) (I 0)) 7 (I p) (I 0)) 8 (I p) (I 0) 5 p ≠ I 0 := by
        simp (disch := omega) only [ck1, bd1, bx1, bx2, aS_at, iS_at, upd_at, ↓reduceIte, Nat.reduceEqDiff, Nat.reduceAdd, Nat.reduceMul, Nat.reduceSub, Nat.reduceDiv, Nat.reduceLT, Nat.reduceLeDiff, Nat.reduceBEq, ne_eq, not_true_eq_false, not_false_eq_true, reduceCtorEq, if_true, if_false, eq_self, Nat.add_zero, Nat.zero_add, lit, lit_nn, I_nat, I_add, I_mul, I_sub, I_div, inb_t, I_ne, I_nn, nn_I, nn_lt, nn_le, lt_nn, le_nn, I_t, I_f, I_lt_t, I_lt_f, isb_0, isb_1, vz_0, vz_1, nn_nat]
      show bn _ _ = _
      unfold bn
      dsimp only
      rw [does_shut (Or.inr rfl) ef, bd1]
      dsimp only
      rw [if_pos (by decide), r2 e5]
      rfl
    · by_cases w : 5 * i + u = p
      · left
        intro o ho'
        have := l2 o ho'
        rw [show p / 5 = i by omega, show p % 5 = u by omega] at this
        exact this
      · right
        intro f1 f2
        simp (disch := omega) only [ck1, bd1, bx1, bx2, aS_at, iS_at, upd_at, ↓reduceIte, Nat.reduceEqDiff, Nat.reduceAdd, Nat.reduceMul, Nat.reduceSub, Nat.reduceDiv, Nat.reduceLT, Nat.reduceLeDiff, Nat.reduceBEq, ne_eq, not_true_eq_false, not_false_eq_true, reduceCtorEq, if_true, if_false, eq_self, Nat.add_zero, Nat.zero_add, lit, lit_nn, I_nat, I_add, I_mul, I_sub, I_div, inb_t, I_ne, I_nn, nn_I, nn_lt, nn_le, lt_nn, le_nn, I_t, I_f, I_lt_t, I_lt_f, isb_0, isb_1, vz_0, vz_1, nn_nat]
        rw [if_neg w]
        exact ⟨f1, f2⟩
    · have := c3 s hs
      unfold Own at this ⊢
      simp (disch := omega) only [ck1, bd1, bx1, bx2, aS_at, iS_at, upd_at, ↓reduceIte, Nat.reduceEqDiff, Nat.reduceAdd, Nat.reduceMul, Nat.reduceSub, Nat.reduceDiv, Nat.reduceLT, Nat.reduceLeDiff, Nat.reduceBEq, ne_eq, not_true_eq_false, not_false_eq_true, reduceCtorEq, if_true, if_false, eq_self, Nat.add_zero, Nat.zero_add, lit, lit_nn, I_nat, I_add, I_mul, I_sub, I_div, inb_t, I_ne, I_nn, nn_I, nn_lt, nn_le, lt_nn, le_nn, I_t, I_f, I_lt_t, I_lt_f, isb_0, isb_1, vz_0, vz_1, nn_nat]
      exact this
    · simp (disch := omega) only [ck1, bd1, bx1, bx2, aS_at, iS_at, upd_at, ↓reduceIte, Nat.reduceEqDiff, Nat.reduceAdd, Nat.reduceMul, Nat.reduceSub, Nat.reduceDiv, Nat.reduceLT, Nat.reduceLeDiff, Nat.reduceBEq, ne_eq, not_true_eq_false, not_false_eq_true, reduceCtorEq, if_true, if_false, eq_self, Nat.add_zero, Nat.zero_add, lit, lit_nn, I_nat, I_add, I_mul, I_sub, I_div, inb_t, I_ne, I_nn, nn_I, nn_lt, nn_le, lt_nn, le_nn, I_t, I_f, I_lt_t, I_lt_f, isb_0, isb_1, vz_0, vz_1, nn_nat, g3]
  · rw [q2 h5]
    obtain ⟨ef, mm', hr'⟩ : fX5_shut cw ct cb (I (p / 5)) (I (p % 5)) = some (.inl (I 0, aS (aS ct 5 (I p) (I 0)) 6 (I p) (if cw 2 p ≠ nn then I 1 else I 0), cb)) ∧ ∃ mm', Rel N cs cw (aS (aS ct 5 (I p) (I 0)) 6 (I p) (if cw 2 p ≠ nn then I 1 else I 0)) cl cb mm' := by
      rcases sim_shut hr (I (p / 5)) (I (p % 5)) with ⟨r, m', e, -⟩ | ⟨r, ct', cb', m', -, e, -, -, e4⟩
      · rcases pf _ e with ⟨-, cb', y, -⟩ | ⟨-, y⟩ <;> cases y
      · rcases pf _ e with ⟨y, -⟩ | ⟨-, y⟩
        · exact absurd y h5
        · cases y
          exact ⟨e, m', e4⟩
    refine ⟨cs, cw, _, cl, cb, cp, cg, ?_, ⟨mm', hr'⟩, ⟨c1.end ho hp, c2.drop (Less.refl _) fun i u hi hu => Or.inr fun f1 f2 => ⟨f1, ?_⟩, fun s hs => ?_, c4⟩, lw, lh, lk, g1, g2, ?_, g4, g5, g6⟩
    · obtain ⟨r1, r2⟩ := port2 cs (aS (aS ct 5 (I p) (I 0)) 6 (I p) (if cw 2 p ≠ nn then I 1 else I 0)) hp
      have e5 : aS (aS ct 5 (I p) (I 0)) 6 (I p) (if cw 2 p ≠ nn then I 1 else I 0) 5 p = I 0 := by
        simp (disch := omega) only [ck1, bd1, bx1, bx2, aS_at, iS_at, upd_at, ↓reduceIte, Nat.reduceEqDiff, Nat.reduceAdd, Nat.reduceMul, Nat.reduceSub, Nat.reduceDiv, Nat.reduceLT, Nat.reduceLeDiff, Nat.reduceBEq, ne_eq, not_true_eq_false, not_false_eq_true, reduceCtorEq, if_true, if_false, eq_self, Nat.add_zero, Nat.zero_add, lit, lit_nn, I_nat, I_add, I_mul, I_sub, I_div, inb_t, I_ne, I_nn, nn_I, nn_lt, nn_le, lt_nn, le_nn, I_t, I_f, I_lt_t, I_lt_f, isb_0, isb_1, vz_0, vz_1, nn_nat]
      show bn _ _ = _
      unfold bn
      dsimp only
      rw [does_shut (Or.inl rfl) ef, bd1]
      dsimp only
      rw [if_pos (by decide), r1 e5]
      rfl
    · simp (disch := omega) only [ck1, bd1, bx1, bx2, aS_at, iS_at, upd_at, ↓reduceIte, Nat.reduceEqDiff, Nat.reduceAdd, Nat.reduceMul, Nat.reduceSub, Nat.reduceDiv, Nat.reduceLT, Nat.reduceLeDiff, Nat.reduceBEq, ne_eq, not_true_eq_false, not_false_eq_true, reduceCtorEq, if_true, if_false, eq_self, Nat.add_zero, Nat.zero_add, lit, lit_nn, I_nat, I_add, I_mul, I_sub, I_div, inb_t, I_ne, I_nn, nn_I, nn_lt, nn_le, lt_nn, le_nn, I_t, I_f, I_lt_t, I_lt_f, isb_0, isb_1, vz_0, vz_1, nn_nat]
      by_cases w : 5 * i + u = p
      · rw [if_pos w]
      · rw [if_neg w]; exact f2
    · have := c3 s hs
      unfold Own at this ⊢
      simp (disch := omega) only [ck1, bd1, bx1, bx2, aS_at, iS_at, upd_at, ↓reduceIte, Nat.reduceEqDiff, Nat.reduceAdd, Nat.reduceMul, Nat.reduceSub, Nat.reduceDiv, Nat.reduceLT, Nat.reduceLeDiff, Nat.reduceBEq, ne_eq, not_true_eq_false, not_false_eq_true, reduceCtorEq, if_true, if_false, eq_self, Nat.add_zero, Nat.zero_add, lit, lit_nn, I_nat, I_add, I_mul, I_sub, I_div, inb_t, I_ne, I_nn, nn_I, nn_lt, nn_le, lt_nn, le_nn, I_t, I_f, I_lt_t, I_lt_f, isb_0, isb_1, vz_0, vz_1, nn_nat]
      exact this
    · simp (disch := omega) only [ck1, bd1, bx1, bx2, aS_at, iS_at, upd_at, ↓reduceIte, Nat.reduceEqDiff, Nat.reduceAdd, Nat.reduceMul, Nat.reduceSub, Nat.reduceDiv, Nat.reduceLT, Nat.reduceLeDiff, Nat.reduceBEq, ne_eq, not_true_eq_false, not_false_eq_true, reduceCtorEq, if_true, if_false, eq_self, Nat.add_zero, Nat.zero_add, lit, lit_nn, I_nat, I_add, I_mul, I_sub, I_div, inb_t, I_ne, I_nn, nn_I, nn_lt, nn_le, lt_nn, le_nn, I_t, I_f, I_lt_t, I_lt_f, isb_0, isb_1, vz_0, vz_1, nn_nat, g3]

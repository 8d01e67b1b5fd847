/-! ===== a port turns, a beat passes ===== -/
theorem p_turnTo (ct : St) (x : Int32) {y : Int32} (hy : y = I 0 ∨ y = I 1) : Pc (fX3_turnTo ct x y) (fun c => ∃ k, k < 30 ∧ x = I k ∧ Fs [6, 14] ct c ∧ c 6 k = y ∧ (∀ j, j ≠ k → c 6 j = ct 6 j)) := by
  unfold fX3_turnTo
  have hv : vp_nar .boolean y = y := by rcases hy with rfl | rfl <;> decide
  rw [hv]
  refine pc_ck fun h => ?_
  obtain ⟨k, hk, rfl⟩ := in30 h
  rw [I_nat (by omega)]
  refine pc_if (fun e => pc_some ⟨k, hk, rfl, Fs.refl _ _, e, fun _ _ => rfl⟩) (fun e => pc_ck fun _ => pc_ck fun _ => pc_some ⟨k, hk, rfl, ((Fs.refl _ _).aS (by decide) _ _).aS (by decide) _ _, ?_, fun j hj => ?_⟩)
  · simp (disch := omega) only [ck1, bd1, bx1, bx2, aS_at, iS_at, upd_at, ↓reduceIte, Nat.reduceEqDiff, Nat.reduceAdd, Nat.reduceMul, Nat.reduceSub, Nat.reduceDiv, Nat.reduceLT, Nat.reduceLeDiff, Nat.reduceBEq, ne_eq, not_true_eq_false, not_false_eq_true, reduceCtorEq, if_true, if_false, eq_self, Nat.add_zero, Nat.zero_add, lit, lit_nn, I_nat, I_add, I_mul, I_sub, I_div, inb_t, I_ne, I_nn, nn_I, nn_lt, nn_le, lt_nn, le_nn, I_t, I_f, I_lt_t, I_lt_f, isb_0, isb_1, vz_0, vz_1, nn_nat]
  · simp (disch := omega) only [ck1, bd1, bx1, bx2, aS_at, iS_at, upd_at, ↓reduceIte, Nat.reduceEqDiff, Nat.reduceAdd, Nat.reduceMul, Nat.reduceSub, Nat.reduceDiv, Nat.reduceLT, Nat.reduceLeDiff, Nat.reduceBEq, ne_eq, not_true_eq_false, not_false_eq_true, reduceCtorEq, if_true, if_false, eq_self, Nat.add_zero, Nat.zero_add, lit, lit_nn, I_nat, I_add, I_mul, I_sub, I_div, inb_t, I_ne, I_nn, nn_I, nn_lt, nn_le, lt_nn, le_nn, I_t, I_f, I_lt_t, I_lt_f, isb_0, isb_1, vz_0, vz_1, nn_nat]
    rw [if_neg hj]
/-- a port behind its turn: its role is r -/
def Trn (cw : St) (k : Nat) (r : Int32) (ct c : St) : Prop :=
  Fs [6, 7, 8, 14] ct c ∧ c 7 k = r ∧ (∀ j, j ≠ k → c 6 j = ct 6 j ∧ c 7 j = ct 7 j ∧ c 8 j = ct 8 j) ∧
  (cw 0 k = nn → c 6 k = ct 6 k ∧ c 8 k = ct 8 k) ∧
  (cw 0 k ≠ nn → (r = I 1 ∨ r = I 2) → (ct 6 k ≠ I 0 → c 6 k = ct 6 k ∧ c 8 k = ct 8 k) ∧ (ct 6 k = I 0 → (c 6 k = I 0 ∧ c 8 k = ct 8 k + 1) ∨ (c 6 k = I 1 ∧ ¬ ct 8 k + 1 ≤ I 2))) ∧
  (cw 0 k ≠ nn → ¬ (r = I 1 ∨ r = I 2) → c 6 k = I 0)
theorem p_turn61 (cw ct : St) {k : Nat} (hk : k < 30) {r : Int32} (h0 : cw 0 k ≠ nn) (hr : r = I 1 ∨ r = I 2) : Pc (fX3_turn_J61 (aS ct 7 (I k) r) cw (I k)) (Trn cw k r ct) := by
  unfold fX3_turn_J61
  have f7 : ∀ j, j ≠ k → aS ct 7 (I k) r 7 j = ct 7 j := fun j hj => by rw [aS_I _ _ (by omega), if_neg hj]
  refine pc_ck fun _ => pc_if (fun e => pc_ck fun _ => pc_ck fun _ => pc_ck fun _ => pc_if (fun g => pc_some ?_) (fun g => pc_ck fun _ => pc_bd (p_turnTo _ _ (Or.inr rfl)) fun d hd => pc_some ?_)) (fun e => pc_some ?_)
  · simp (disch := omega) only [ck1, bd1, bx1, bx2, aS_at, iS_at, upd_at, ↓reduceIte, Nat.reduceEqDiff, Nat.reduceAdd, Nat.reduceMul, Nat.reduceSub, Nat.reduceDiv, Nat.reduceLT, Nat.reduceLeDiff, Nat.reduceBEq, ne_eq, not_true_eq_false, not_false_eq_true, reduceCtorEq, if_true, if_false, eq_self, Nat.add_zero, Nat.zero_add, lit, lit_nn, I_nat, I_add, I_mul, I_sub, I_div, inb_t, I_ne, I_nn, nn_I, nn_lt, nn_le, lt_nn, le_nn, I_t, I_f, I_lt_t, I_lt_f, isb_0, isb_1, vz_0, vz_1, nn_nat] at e
    refine ⟨((Fs.refl _ _).aS (by decide) _ _).aS (by decide) _ _, ?_, ?_, fun z => absurd z h0, fun _ _ => ⟨fun z => absurd e z, fun _ => Or.inl ⟨?_, ?_⟩⟩, fun _ z => absurd hr z⟩
    · simp (disch := omega) only [ck1, bd1, bx1, bx2, aS_at, iS_at, upd_at, ↓reduceIte, Nat.reduceEqDiff, Nat.reduceAdd, Nat.reduceMul, Nat.reduceSub, Nat.reduceDiv, Nat.reduceLT, Nat.reduceLeDiff, Nat.reduceBEq, ne_eq, not_true_eq_false, not_false_eq_true, reduceCtorEq, if_true, if_false, eq_self, Nat.add_zero, Nat.zero_add, lit, lit_nn, I_nat, I_add, I_mul, I_sub, I_div, inb_t, I_ne, I_nn, nn_I, nn_lt, nn_le, lt_nn, le_nn, I_t, I_f, I_lt_t, I_lt_f, isb_0, isb_1, vz_0, vz_1, nn_nat]
    · intro j hj
      simp (disch := omega) only [ck1, bd1, bx1, bx2, aS_at, iS_at, upd_at, ↓reduceIte, Nat.reduceEqDiff, Nat.reduceAdd, Nat.reduceMul, Nat.reduceSub, Nat.reduceDiv, Nat.reduceLT, Nat.reduceLeDiff, Nat.reduceBEq, ne_eq, not_true_eq_false, not_false_eq_true, reduceCtorEq, if_true, if_false, eq_self, Nat.add_zero, Nat.zero_add, lit, lit_nn, I_nat, I_add, I_mul, I_sub, I_div, inb_t, I_ne, I_nn, nn_I, nn_lt, nn_le, lt_nn, le_nn, I_t, I_f, I_lt_t, I_lt_f, isb_0, isb_1, vz_0, vz_1, nn_nat]
      rw [if_neg hj, if_neg hj]
      simp
    · simp (disch := omega) only [ck1, bd1, bx1, bx2, aS_at, iS_at, upd_at, ↓reduceIte, Nat.reduceEqDiff, Nat.reduceAdd, Nat.reduceMul, Nat.reduceSub, Nat.reduceDiv, Nat.reduceLT, Nat.reduceLeDiff, Nat.reduceBEq, ne_eq, not_true_eq_false, not_false_eq_true, reduceCtorEq, if_true, if_false, eq_self, Nat.add_zero, Nat.zero_add, lit, lit_nn, I_nat, I_add, I_mul, I_sub, I_div, inb_t, I_ne, I_nn, nn_I, nn_lt, nn_le, lt_nn, le_nn, I_t, I_f, I_lt_t, I_lt_f, isb_0, isb_1, vz_0, vz_1, nn_nat]
      exact e
    · simp (disch := omega) only [ck1, bd1, bx1, bx2, aS_at, iS_at, upd_at, ↓reduceIte, Nat.reduceEqDiff, Nat.reduceAdd, Nat.reduceMul, Nat.reduceSub, Nat.reduceDiv, Nat.reduceLT, Nat.reduceLeDiff, Nat.reduceBEq, ne_eq, not_true_eq_false, not_false_eq_true, reduceCtorEq, if_true, if_false, eq_self, Nat.add_zero, Nat.zero_add, lit, lit_nn, I_nat, I_add, I_mul, I_sub, I_div, inb_t, I_ne, I_nn, nn_I, nn_lt, nn_le, lt_nn, le_nn, I_t, I_f, I_lt_t, I_lt_f, isb_0, isb_1, vz_0, vz_1, nn_nat]
  · simp (disch := omega) only [ck1, bd1, bx1, bx2, aS_at, iS_at, upd_at, ↓reduceIte, Nat.reduceEqDiff, Nat.reduceAdd, Nat.reduceMul, Nat.reduceSub, Nat.reduceDiv, Nat.reduceLT, Nat.reduceLeDiff, Nat.reduceBEq, ne_eq, not_true_eq_false, not_false_eq_true, reduceCtorEq, if_true, if_false, eq_self, Nat.add_zero, Nat.zero_add, lit, lit_nn, I_nat, I_add, I_mul, I_sub, I_div, inb_t, I_ne, I_nn, nn_I, nn_lt, nn_le, lt_nn, le_nn, I_t, I_f, I_lt_t, I_lt_f, isb_0, isb_1, vz_0, vz_1, nn_nat] at e g
    obtain ⟨k', hk', ek, d1, d2, d3⟩ := hd
    rw [I_inj (by omega) (by omega)] at ek
    subst ek
    refine ⟨?_, ?_, ?_, fun z => absurd z h0, fun _ _ => ⟨fun z => absurd e z, fun _ => Or.inr ⟨d2, g⟩⟩, fun _ z => absurd hr z⟩
    · exact Fs.trans ((((Fs.refl _ _).aS (by decide) _ _).aS (by decide) _ _).aS (by decide) _ _) (d1.mono (by decide))
    · rw [d1 7 (by decide)]
      simp (disch := omega) only [ck1, bd1, bx1, bx2, aS_at, iS_at, upd_at, ↓reduceIte, Nat.reduceEqDiff, Nat.reduceAdd, Nat.reduceMul, Nat.reduceSub, Nat.reduceDiv, Nat.reduceLT, Nat.reduceLeDiff, Nat.reduceBEq, ne_eq, not_true_eq_false, not_false_eq_true, reduceCtorEq, if_true, if_false, eq_self, Nat.add_zero, Nat.zero_add, lit, lit_nn, I_nat, I_add, I_mul, I_sub, I_div, inb_t, I_ne, I_nn, nn_I, nn_lt, nn_le, lt_nn, le_nn, I_t, I_f, I_lt_t, I_lt_f, isb_0, isb_1, vz_0, vz_1, nn_nat]
    · intro j hj
      rw [d3 j hj, d1 7 (by decide), d1 8 (by decide)]
      simp (disch := omega) only [ck1, bd1, bx1, bx2, aS_at, iS_at, upd_at, ↓reduceIte, Nat.reduceEqDiff, Nat.reduceAdd, Nat.reduceMul, Nat.reduceSub, Nat.reduceDiv, Nat.reduceLT, Nat.reduceLeDiff, Nat.reduceBEq, ne_eq, not_true_eq_false, not_false_eq_true, reduceCtorEq, if_true, if_false, eq_self, Nat.add_zero, Nat.zero_add, lit, lit_nn, I_nat, I_add, I_mul, I_sub, I_div, inb_t, I_ne, I_nn, nn_I, nn_lt, nn_le, lt_nn, le_nn, I_t, I_f, I_lt_t, I_lt_f, isb_0, isb_1, vz_0, vz_1, nn_nat]
      rw [if_neg hj, if_neg hj, if_neg hj]
      simp
  · simp (disch := omega) only [ck1, bd1, bx1, bx2, aS_at, iS_at, upd_at, ↓reduceIte, Nat.reduceEqDiff, Nat.reduceAdd, Nat.reduceMul, Nat.reduceSub, Nat.reduceDiv, Nat.reduceLT, Nat.reduceLeDiff, Nat.reduceBEq, ne_eq, not_true_eq_false, not_false_eq_true, reduceCtorEq, if_true, if_false, eq_self, Nat.add_zero, Nat.zero_add, lit, lit_nn, I_nat, I_add, I_mul, I_sub, I_div, inb_t, I_ne, I_nn, nn_I, nn_lt, nn_le, lt_nn, le_nn, I_t, I_f, I_lt_t, I_lt_f, isb_0, isb_1, vz_0, vz_1, nn_nat] at e
    refine ⟨(Fs.refl _ _).aS (by decide) _ _, ?_, ?_, fun z => absurd z h0, fun _ _ => ⟨fun _ => ⟨?_, ?_⟩, fun z => absurd z e⟩, fun _ z => absurd hr z⟩
    · simp (disch := omega) only [ck1, bd1, bx1, bx2, aS_at, iS_at, upd_at, ↓reduceIte, Nat.reduceEqDiff, Nat.reduceAdd, Nat.reduceMul, Nat.reduceSub, Nat.reduceDiv, Nat.reduceLT, Nat.reduceLeDiff, Nat.reduceBEq, ne_eq, not_true_eq_false, not_false_eq_true, reduceCtorEq, if_true, if_false, eq_self, Nat.add_zero, Nat.zero_add, lit, lit_nn, I_nat, I_add, I_mul, I_sub, I_div, inb_t, I_ne, I_nn, nn_I, nn_lt, nn_le, lt_nn, le_nn, I_t, I_f, I_lt_t, I_lt_f, isb_0, isb_1, vz_0, vz_1, nn_nat]
    · intro j hj
      simp (disch := omega) only [ck1, bd1, bx1, bx2, aS_at, iS_at, upd_at, ↓reduceIte, Nat.reduceEqDiff, Nat.reduceAdd, Nat.reduceMul, Nat.reduceSub, Nat.reduceDiv, Nat.reduceLT, Nat.reduceLeDiff, Nat.reduceBEq, ne_eq, not_true_eq_false, not_false_eq_true, reduceCtorEq, if_true, if_false, eq_self, Nat.add_zero, Nat.zero_add, lit, lit_nn, I_nat, I_add, I_mul, I_sub, I_div, inb_t, I_ne, I_nn, nn_I, nn_lt, nn_le, lt_nn, le_nn, I_t, I_f, I_lt_t, I_lt_f, isb_0, isb_1, vz_0, vz_1, nn_nat]
      rw [if_neg hj]
      simp
    · simp (disch := omega) only [ck1, bd1, bx1, bx2, aS_at, iS_at, upd_at, ↓reduceIte, Nat.reduceEqDiff, Nat.reduceAdd, Nat.reduceMul, Nat.reduceSub, Nat.reduceDiv, Nat.reduceLT, Nat.reduceLeDiff, Nat.reduceBEq, ne_eq, not_true_eq_false, not_false_eq_true, reduceCtorEq, if_true, if_false, eq_self, Nat.add_zero, Nat.zero_add, lit, lit_nn, I_nat, I_add, I_mul, I_sub, I_div, inb_t, I_ne, I_nn, nn_I, nn_lt, nn_le, lt_nn, le_nn, I_t, I_f, I_lt_t, I_lt_f, isb_0, isb_1, vz_0, vz_1, nn_nat]
    · simp (disch := omega) only [ck1, bd1, bx1, bx2, aS_at, iS_at, upd_at, ↓reduceIte, Nat.reduceEqDiff, Nat.reduceAdd, Nat.reduceMul, Nat.reduceSub, Nat.reduceDiv, Nat.reduceLT, Nat.reduceLeDiff, Nat.reduceBEq, ne_eq, not_true_eq_false, not_false_eq_true, reduceCtorEq, if_true, if_false, eq_self, Nat.add_zero, Nat.zero_add, lit, lit_nn, I_nat, I_add, I_mul, I_sub, I_div, inb_t, I_ne, I_nn, nn_I, nn_lt, nn_le, lt_nn, le_nn, I_t, I_f, I_lt_t, I_lt_f, isb_0, isb_1, vz_0, vz_1, nn_nat]
theorem p_turn (cw ct : St) (x : Int32) : Pc (fX3_turn ct cw x) (fun c => ∃ k r, k < 30 ∧ x = I k ∧ fX3_roleOf ct cw (I k) = some r ∧ Trn cw k r ct c) := by
  unfold fX3_turn
  refine pc_bd (Ψ := fun r => fX3_roleOf ct cw x = some r) (fun _ h => h) fun r hr => pc_ck fun h => pc_ck fun _ => ?_
  obtain ⟨k, hk, rfl⟩ := in30 h
  obtain ⟨k', hk', ek, r1, -, -⟩ := p_role ct cw (I k) r hr
  rw [I_inj (by omega) (by omega)] at ek
  subst ek
  rw [I_nat (by omega)]
  have h7 : aS ct 7 (I k) r 7 k = r := by rw [aS_I _ _ (by omega), if_pos rfl]
  rw [h7]
  refine pc_if (fun c => pc_some ⟨k, r, hk, rfl, hr, ?_⟩) (fun c => pc_ck fun _ => pc_if (fun e => ?_) (fun e => pc_ck fun _ => pc_if (fun g => ?_) (fun g => pc_ck fun _ => pc_bd (p_turnTo _ _ (Or.inl rfl)) fun d hd => pc_some ⟨k, r, hk, rfl, hr, ?_⟩)))
  · refine ⟨(Fs.refl _ _).aS (by decide) _ _, h7, ?_, fun _ => ⟨?_, ?_⟩, fun z => absurd c z, fun z => absurd c z⟩
    · intro j hj
      simp (disch := omega) only [ck1, bd1, bx1, bx2, aS_at, iS_at, upd_at, ↓reduceIte, Nat.reduceEqDiff, Nat.reduceAdd, Nat.reduceMul, Nat.reduceSub, Nat.reduceDiv, Nat.reduceLT, Nat.reduceLeDiff, Nat.reduceBEq, ne_eq, not_true_eq_false, not_false_eq_true, reduceCtorEq, if_true, if_false, eq_self, Nat.add_zero, Nat.zero_add, lit, lit_nn, I_nat, I_add, I_mul, I_sub, I_div, inb_t, I_ne, I_nn, nn_I, nn_lt, nn_le, lt_nn, le_nn, I_t, I_f, I_lt_t, I_lt_f, isb_0, isb_1, vz_0, vz_1, nn_nat]
      rw [if_neg hj]
      simp
    · simp (disch := omega) only [ck1, bd1, bx1, bx2, aS_at, iS_at, upd_at, ↓reduceIte, Nat.reduceEqDiff, Nat.reduceAdd, Nat.reduceMul, Nat.reduceSub, Nat.reduceDiv, Nat.reduceLT, Nat.reduceLeDiff, Nat.reduceBEq, ne_eq, not_true_eq_false, not_false_eq_true, reduceCtorEq, if_true, if_false, eq_self, Nat.add_zero, Nat.zero_add, lit, lit_nn, I_nat, I_add, I_mul, I_sub, I_div, inb_t, I_ne, I_nn, nn_I, nn_lt, nn_le, lt_nn, le_nn, I_t, I_f, I_lt_t, I_lt_f, isb_0, isb_1, vz_0, vz_1, nn_nat]
    · simp (disch := omega) only [ck1, bd1, bx1, bx2, aS_at, iS_at, upd_at, ↓reduceIte, Nat.reduceEqDiff, Nat.reduceAdd, Nat.reduceMul, Nat.reduceSub, Nat.reduceDiv, Nat.reduceLT, Nat.reduceLeDiff, Nat.reduceBEq, ne_eq, not_true_eq_false, not_false_eq_true, reduceCtorEq, if_true, if_false, eq_self, Nat.add_zero, Nat.zero_add, lit, lit_nn, I_nat, I_add, I_mul, I_sub, I_div, inb_t, I_ne, I_nn, nn_I, nn_lt, nn_le, lt_nn, le_nn, I_t, I_f, I_lt_t, I_lt_f, isb_0, isb_1, vz_0, vz_1, nn_nat]
  · exact pc_mono (p_turn61 cw ct hk c (Or.inl e)) fun d hd => ⟨k, r, hk, rfl, hr, hd⟩
  · exact pc_mono (p_turn61 cw ct hk c (Or.inr g)) fun d hd => ⟨k, r, hk, rfl, hr, hd⟩
  · obtain ⟨k', hk', ek, d1, d2, d3⟩ := hd
    rw [I_inj (by omega) (by omega)] at ek
    subst ek
    refine ⟨Fs.trans (((Fs.refl _ _).aS (by decide) _ _).aS (by decide) _ _) (d1.mono (by decide)), ?_, ?_, fun z => absurd z c, fun _ z => ?_, fun _ _ => d2⟩
    · rw [d1 7 (by decide)]
      simp (disch := omega) only [ck1, bd1, bx1, bx2, aS_at, iS_at, upd_at, ↓reduceIte, Nat.reduceEqDiff, Nat.reduceAdd, Nat.reduceMul, Nat.reduceSub, Nat.reduceDiv, Nat.reduceLT, Nat.reduceLeDiff, Nat.reduceBEq, ne_eq, not_true_eq_false, not_false_eq_true, reduceCtorEq, if_true, if_false, eq_self, Nat.add_zero, Nat.zero_add, lit, lit_nn, I_nat, I_add, I_mul, I_sub, I_div, inb_t, I_ne, I_nn, nn_I, nn_lt, nn_le, lt_nn, le_nn, I_t, I_f, I_lt_t, I_lt_f, isb_0, isb_1, vz_0, vz_1, nn_nat]
    · intro j hj
      rw [d3 j hj, d1 7 (by decide), d1 8 (by decide)]
      simp (disch := omega) only [ck1, bd1, bx1, bx2, aS_at, iS_at, upd_at, ↓reduceIte, Nat.reduceEqDiff, Nat.reduceAdd, Nat.reduceMul, Nat.reduceSub, Nat.reduceDiv, Nat.reduceLT, Nat.reduceLeDiff, Nat.reduceBEq, ne_eq, not_true_eq_false, not_false_eq_true, reduceCtorEq, if_true, if_false, eq_self, Nat.add_zero, Nat.zero_add, lit, lit_nn, I_nat, I_add, I_mul, I_sub, I_div, inb_t, I_ne, I_nn, nn_I, nn_lt, nn_le, lt_nn, le_nn, I_t, I_f, I_lt_t, I_lt_f, isb_0, isb_1, vz_0, vz_1, nn_nat]
      rw [if_neg hj, if_neg hj]
      simp
    · rcases z with z | z
      · exact absurd z e
      · exact absurd z g
theorem Trn.xa {cw ct c : St} {k : Nat} {r : Int32} (hk : k < 30) (hr : fX3_roleOf ct cw (I k) = some r) (ho : OneW cw) (h : Trn cw k r ct c) (hx : XA cw ct) : XA cw c := by
  obtain ⟨h1, h2, h3, h4, h5, h6⟩ := h
  obtain ⟨k', hk', ek, r1, r2, r3⟩ := p_role ct cw (I k) r hr
  rw [I_inj (by omega) (by omega)] at ek
  subst ek
  have e5 : c 5 = ct 5 := h1 5 (by decide)
  intro j hj
  by_cases e : j = k
  · subst e
    obtain ⟨x1, x2, x3, x4, x5⟩ := hx j hj
    unfold XP
    rw [e5, h2]
    by_cases cn : cw 0 j = nn
    · rw [(h4 cn).1]
      exact ⟨r2, x2, fun z => absurd cn z, x4, x5⟩
    · have hn : cw 2 j = nn := ho j hj cn
      refine ⟨r2, fun z => absurd hn z, fun _ z => ?_, fun z => ?_, ?_⟩
      · exact Classical.byContradiction fun w => by rw [h6 cn w, I10] at z; exact z
      · refine ⟨?_, Or.inl cn⟩
        apply Classical.byContradiction
        intro w
        have := r2 w
        rw [h6 cn (by rw [this, I10, I_ne (by omega) (by omega) (by omega)]; simp), I10] at z
        exact z
      · by_cases w : r = I 1 ∨ r = I 2
        · obtain ⟨a, b⟩ := h5 cn w
          rcases x5 with x5 | x5
          · rcases b x5 with b | b
            · exact Or.inl b.1
            · exact Or.inr b.1
          · right
            rw [(a (by rw [x5, ne_eq, I01]; exact fun z => z)).1]; exact x5
        · exact Or.inl (h6 cn w)
  · exact (hx j hj).ext (by rw [e5]) (h3 j e).1 (h3 j e).2.1
theorem p_spread (ct cw : St) : Pc (fX3_spreadStale ct cw) (Fs [14] ct) := by
  unfold fX3_spreadStale fX3_spreadStale_L2
  refine pc_loop (fun a => Fs [14] ct a.1) (fun rec hr a ha => ?_) _ _ (Fs.refl _ _)
  unfold fX3_spreadStale_S2
  refine pc_if (fun _ => pc_some ha) (fun _ => ?_)
  unfold fX3_spreadStale_L10
  refine pc_loop (fun b => Fs [14] ct b.1) (fun rec2 hr2 b hb => ?_) _ _ ha
  unfold fX3_spreadStale_S10
  refine pc_if (fun _ => hr _ hb) (fun _ => pc_ck fun _ => pc_if (fun _ => hr2 _ hb) (fun _ => pc_bd pc_any fun q _ => pc_if (fun _ => hr2 _ hb) (fun _ => pc_ck fun _ => pc_ck fun _ => hr2 _ (hb.aS (by decide) _ _))))
theorem p_storms (ct cw : St) (ho : OneW cw) : Pc (fX3_endStorms ct cw) (fun c => Fs [5, 6] ct c ∧ (XA cw ct → XA cw c) ∧ (∀ k, k < 30 → ct 5 k = I 0 → c 5 k = I 0) ∧ (∀ k, c 5 k ≠ ct 5 k ∨ c 6 k ≠ ct 6 k → ¬ ct 5 k ≤ I 0)) := by
  unfold fX3_endStorms fX3_endStorms_L2
  refine pc_loop (fun a => Fs [5, 6] ct a.1 ∧ (XA cw ct → XA cw a.1) ∧ (∀ k, k < 30 → ct 5 k = I 0 → a.1 5 k = I 0) ∧ (∀ k, a.1 5 k ≠ ct 5 k ∨ a.1 6 k ≠ ct 6 k → ¬ ct 5 k ≤ I 0)) (fun rec hr a ha => ?_) _ _ ⟨Fs.refl _ _, fun h => h, fun _ _ h => h, fun k h => by simp at h⟩
  obtain ⟨c, x⟩ := a
  obtain ⟨h1, h2, h3, h4⟩ := ha
  unfold fX3_endStorms_S2
  refine pc_if (fun _ => pc_some ⟨h1, h2, h3, h4⟩) (fun _ => pc_ck fun hx => pc_if (fun _ => hr _ ⟨h1, h2, h3, h4⟩) (fun hs => pc_ck fun _ => pc_if (fun _ => hr _ ⟨h1, h2, h3, h4⟩) (fun _ => pc_bd (p_endShut _ _ _) fun d hd => hr _ ?_)))
  obtain ⟨k, hk, rfl, rfl⟩ := hd
  dsimp only at h1 h2 h3 h4 hs
  rw [I_nat (by omega)] at hs
  refine ⟨(h1.aS (by decide) _ _).aS (by decide) _ _, fun h => (h2 h).end ho hk, fun j hj e => ?_, fun j z => ?_⟩
  · dsimp only
    simp (disch := omega) only [ck1, bd1, bx1, bx2, aS_at, iS_at, upd_at, ↓reduceIte, Nat.reduceEqDiff, Nat.reduceAdd, Nat.reduceMul, Nat.reduceSub, Nat.reduceDiv, Nat.reduceLT, Nat.reduceLeDiff, Nat.reduceBEq, ne_eq, not_true_eq_false, not_false_eq_true, reduceCtorEq, if_true, if_false, eq_self, Nat.add_zero, Nat.zero_add, lit, lit_nn, I_nat, I_add, I_mul, I_sub, I_div, inb_t, I_ne, I_nn, nn_I, nn_lt, nn_le, lt_nn, le_nn, I_t, I_f, I_lt_t, I_lt_f, isb_0, isb_1, vz_0, vz_1, nn_nat]
    by_cases w : j = k
    · rw [if_pos w]
    · rw [if_neg w]; exact h3 j hj e
  · dsimp only at z
    simp (disch := omega) only [ck1, bd1, bx1, bx2, aS_at, iS_at, upd_at, ↓reduceIte, Nat.reduceEqDiff, Nat.reduceAdd, Nat.reduceMul, Nat.reduceSub, Nat.reduceDiv, Nat.reduceLT, Nat.reduceLeDiff, Nat.reduceBEq, ne_eq, not_true_eq_false, not_false_eq_true, reduceCtorEq, if_true, if_false, eq_self, Nat.add_zero, Nat.zero_add, lit, lit_nn, I_nat, I_add, I_mul, I_sub, I_div, inb_t, I_ne, I_nn, nn_I, nn_lt, nn_le, lt_nn, le_nn, I_t, I_f, I_lt_t, I_lt_f, isb_0, isb_1, vz_0, vz_1, nn_nat] at z
    by_cases w : j = k
    · subst w
      by_cases v : c 5 j = ct 5 j
      · rw [v] at hs; exact hs
      · exact h4 j (Or.inl v)
    · rw [if_neg w, if_neg w] at z
      exact h4 j z

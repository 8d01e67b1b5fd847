/-! ===== what holds of each port ===== -/
def XP (cw ct : St) (k : Nat) : Prop :=
  (ct 5 k ≠ I 0 → ct 7 k = I 0) ∧ (cw 2 k ≠ nn → ct 5 k = I 0 → ct 6 k = I 1) ∧ (cw 0 k ≠ nn → ct 6 k = I 1 → ct 7 k = I 1 ∨ ct 7 k = I 2) ∧
  (ct 6 k = I 1 → ct 5 k = I 0 ∧ (cw 0 k ≠ nn ∨ cw 2 k ≠ nn)) ∧ (ct 6 k = I 0 ∨ ct 6 k = I 1)
def XA (cw ct : St) : Prop := ∀ k, k < 30 → XP cw ct k
def OneW (cw : St) : Prop := ∀ k, k < 30 → cw 0 k ≠ nn → cw 2 k = nn
theorem XP.ext {cw ct c : St} {k : Nat} (h : XP cw ct k) (h5 : c 5 k = ct 5 k) (h6 : c 6 k = ct 6 k) (h7 : c 7 k = ct 7 k) : XP cw c k := by
  unfold XP
  rw [h5, h6, h7]
  exact h
theorem XA.ext {cw ct c : St} (h : XA cw ct) (h5 : c 5 = ct 5) (h6 : c 6 = ct 6) (h7 : c 7 = ct 7) : XA cw c :=
  fun k hk => (h k hk).ext (by rw [h5]) (by rw [h6]) (by rw [h7])
theorem p_isShut (ct : St) (x : Int32) : Pc (fX3_isShut ct x) (fun r => ∃ k, k < 30 ∧ x = I k ∧ ((r = I 0 ∧ ct 5 k = I 0) ∨ (r = I 1 ∧ ct 5 k ≠ I 0))) := by
  unfold fX3_isShut
  refine pc_ck fun h => ?_
  obtain ⟨k, hk, rfl⟩ := in30 h
  rw [I_nat (by omega)]
  refine pc_if (fun c => pc_some ⟨k, hk, rfl, ?_⟩) (fun c => pc_some ⟨k, hk, rfl, ?_⟩)
  · exact Or.inl ⟨rfl, c⟩
  · exact Or.inr ⟨rfl, c⟩
theorem p_close (ct : St) (x : Int32) : Pc (fX3_close ct x) (fun c => ∃ k, k < 30 ∧ x = I k ∧ c = aS (aS (aS ct 6 (I k) (I 0)) 7 (I k) (I 0)) 8 (I k) (I 0)) := by
  intro r e
  unfold fX3_close at e
  obtain ⟨h, e⟩ : inb x 30 = true ∧ True := by
    cases hb : inb x 30 with
    | true => exact ⟨rfl, trivial⟩
    | false => rw [hb] at e; cases e
  obtain ⟨k, hk, rfl⟩ := in30 h
  have e2 : fX3_close ct (I k) = some r := by unfold fX3_close; assumption
  rw [close_eq ct hk] at e2
  cases e2
  exact ⟨k, hk, rfl, rfl⟩
theorem p_beginShut (ct : St) (x u : Int32) : Pc (fX3_beginShut ct x u) (fun c => ∃ k, k < 30 ∧ x = I k ∧ c = aS (aS (aS (aS ct 5 (I k) u) 6 (I k) (I 0)) 7 (I k) (I 0)) 8 (I k) (I 0)) := by
  unfold fX3_beginShut
  refine pc_ck fun h => pc_bd (p_close _ _) fun a ha => pc_some ?_
  obtain ⟨k, hk, rfl, rfl⟩ := ha
  exact ⟨k, hk, rfl, rfl⟩
theorem p_openFor (ct cw : St) (x : Int32) : Pc (fX3_openForHouse ct cw x) (fun c => ∃ k, k < 30 ∧ x = I k ∧ c = aS ct 6 (I k) (if ct 5 k = I 0 ∧ cw 2 k ≠ nn then I 1 else I 0)) := by
  intro r e
  have e0 := e
  unfold fX3_openForHouse at e
  obtain ⟨q, hq⟩ : ∃ q, fX3_isShut ct x = some q := by
    cases hx : fX3_isShut ct x with
    | none => rw [hx] at e; cases e
    | some q => exact ⟨q, rfl⟩
  obtain ⟨k, hk, rfl, -⟩ := p_isShut ct x q hq
  rw [openFor ct cw hk] at e0
  cases e0
  exact ⟨k, hk, rfl, rfl⟩
theorem p_endShut (ct cw : St) (x : Int32) : Pc (fX3_endShut ct cw x) (fun c => ∃ k, k < 30 ∧ x = I k ∧ c = aS (aS ct 5 (I k) (I 0)) 6 (I k) (if cw 2 k ≠ nn then I 1 else I 0)) := by
  unfold fX3_endShut
  refine pc_ck fun h => pc_bd (p_openFor _ _ _) fun a ha => pc_some ?_
  obtain ⟨k, hk, rfl, rfl⟩ := ha
  refine ⟨k, hk, rfl, ?_⟩
  rw [zeroI, aS_I _ _ (by omega), if_pos rfl]
  by_cases c : cw 2 k ≠ nn
  · rw [if_pos ⟨rfl, c⟩, if_pos c]
  · rw [if_neg (fun z => c z.2), if_neg c]
theorem XA.begin {cw ct : St} (h : XA cw ct) {k : Nat} (hk : k < 30) {u : Int32} (hu : u ≠ I 0) : XA cw (aS (aS (aS (aS ct 5 (I k) u) 6 (I k) (I 0)) 7 (I k) (I 0)) 8 (I k) (I 0)) := by
  intro j hj
  by_cases e : j = k
  · subst e
    unfold XP
    simp (disch := omega) only [ck1, bd1, bx1, bx2, aS_at, iS_at, upd_at, ↓reduceIte, Nat.reduceEqDiff, Nat.reduceAdd, Nat.reduceMul, Nat.reduceSub, Nat.reduceDiv, Nat.reduceLT, Nat.reduceLeDiff, Nat.reduceBEq, ne_eq, not_true_eq_false, not_false_eq_true, reduceCtorEq, if_true, if_false, eq_self, Nat.add_zero, Nat.zero_add, lit, lit_nn, I_nat, I_add, I_mul, I_sub, I_div, inb_t, I_ne, I_nn, nn_I, nn_lt, nn_le, lt_nn, le_nn, I_t, I_f, I_lt_t, I_lt_f, isb_0, isb_1, vz_0, vz_1, nn_nat]
    simp [hu]
  · refine (h j hj).ext ?_ ?_ ?_ <;> simp (disch := omega) only [ck1, bd1, bx1, bx2, aS_at, iS_at, upd_at, ↓reduceIte, Nat.reduceEqDiff, Nat.reduceAdd, Nat.reduceMul, Nat.reduceSub, Nat.reduceDiv, Nat.reduceLT, Nat.reduceLeDiff, Nat.reduceBEq, ne_eq, not_true_eq_false, not_false_eq_true, reduceCtorEq, if_true, if_false, eq_self, Nat.add_zero, Nat.zero_add, lit, lit_nn, I_nat, I_add, I_mul, I_sub, I_div, inb_t, I_ne, I_nn, nn_I, nn_lt, nn_le, lt_nn, le_nn, I_t, I_f, I_lt_t, I_lt_f, isb_0, isb_1, vz_0, vz_1, nn_nat] <;> rw [if_neg e]
theorem XA.end {cw ct : St} (h : XA cw ct) (ho : OneW cw) {k : Nat} (hk : k < 30) : XA cw (aS (aS ct 5 (I k) (I 0)) 6 (I k) (if cw 2 k ≠ nn then I 1 else I 0)) := by
  intro j hj
  by_cases e : j = k
  · subst e
    unfold XP
    simp (disch := omega) only [ck1, bd1, bx1, bx2, aS_at, iS_at, upd_at, ↓reduceIte, Nat.reduceEqDiff, Nat.reduceAdd, Nat.reduceMul, Nat.reduceSub, Nat.reduceDiv, Nat.reduceLT, Nat.reduceLeDiff, Nat.reduceBEq, ne_eq, not_true_eq_false, not_false_eq_true, reduceCtorEq, if_true, if_false, eq_self, Nat.add_zero, Nat.zero_add, lit, lit_nn, I_nat, I_add, I_mul, I_sub, I_div, inb_t, I_ne, I_nn, nn_I, nn_lt, nn_le, lt_nn, le_nn, I_t, I_f, I_lt_t, I_lt_f, isb_0, isb_1, vz_0, vz_1, nn_nat]
    have o := ho j hj
    by_cases c : cw 2 j = nn
    · simp [c, I10]
    · have o2 : cw 0 j = nn := Classical.byContradiction fun z => c (o z)
      simp [c, o2]
  · refine (h j hj).ext ?_ ?_ ?_ <;> simp (disch := omega) only [ck1, bd1, bx1, bx2, aS_at, iS_at, upd_at, ↓reduceIte, Nat.reduceEqDiff, Nat.reduceAdd, Nat.reduceMul, Nat.reduceSub, Nat.reduceDiv, Nat.reduceLT, Nat.reduceLeDiff, Nat.reduceBEq, ne_eq, not_true_eq_false, not_false_eq_true, reduceCtorEq, if_true, if_false, eq_self, Nat.add_zero, Nat.zero_add, lit, lit_nn, I_nat, I_add, I_mul, I_sub, I_div, inb_t, I_ne, I_nn, nn_I, nn_lt, nn_le, lt_nn, le_nn, I_t, I_f, I_lt_t, I_lt_f, isb_0, isb_1, vz_0, vz_1, nn_nat] <;> rw [if_neg e]

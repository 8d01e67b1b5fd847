/-! ===== what is held, roles, turning ===== -/
def Oth (s : Nat) (a b : St) : Prop := ∀ q j, j ≠ s → b q j = a q j
def Own (s : Nat) (c : St) : Prop := c 4 s = nn → c 1 s = I s ∧ c 2 s = I 0 ∧ c 3 s = I 0
theorem p_offer (ct cw : St) {s : Nat} (hs : s < 6) (x : Int32) : Pc (fX3_offer ct cw (I s) x) (fun c => Fs [1, 2, 3, 4] ct c ∧ (∀ q, q = 1 ∨ q = 2 ∨ q = 3 ∨ q = 4 → ∀ j, j ≠ s → c q j = ct q j) ∧ (c = ct ∨ c 4 s ≠ nn)) := by
  unfold fX3_offer
  have triv : Fs [1, 2, 3, 4] ct ct ∧ (∀ q, q = 1 ∨ q = 2 ∨ q = 3 ∨ q = 4 → ∀ j, j ≠ s → ct q j = ct q j) ∧ (ct = ct ∨ ct 4 s ≠ nn) := ⟨Fs.refl _ _, fun _ _ _ _ => rfl, Or.inl rfl⟩
  refine pc_ck fun h => ?_
  obtain ⟨k, hk, rfl⟩ := in30 h
  refine pc_if (fun _ => pc_some triv) (fun _ => pc_ck fun _ => pc_if (fun _ => pc_some triv) (fun _ => pc_bd pc_any fun q _ => pc_if (fun _ => pc_some triv) (fun _ => ?_)))
  refine pc_ck fun _ => pc_ck fun _ => pc_ck fun _ => pc_ck fun _ => pc_ck fun _ => pc_ck fun _ => pc_ck fun _ => pc_ck fun _ => pc_some ⟨?_, ?_, Or.inr ?_⟩
  · exact ((((Fs.refl _ _).aS (by decide) _ _).aS (by decide) _ _).aS (by decide) _ _).aS (by decide) _ _
  · intro q hq j hj
    rcases hq with rfl | rfl | rfl | rfl <;> simp (disch := omega) only [ck1, bd1, bx1, bx2, aS_at, iS_at, upd_at, ↓reduceIte, Nat.reduceEqDiff, Nat.reduceAdd, Nat.reduceMul, Nat.reduceSub, Nat.reduceDiv, Nat.reduceLT, Nat.reduceLeDiff, Nat.reduceBEq, ne_eq, not_true_eq_false, not_false_eq_true, reduceCtorEq, if_true, if_false, eq_self, Nat.add_zero, Nat.zero_add, lit, lit_nn, I_nat, I_add, I_mul, I_sub, I_div, inb_t, I_ne, I_nn, nn_I, nn_lt, nn_le, lt_nn, le_nn, I_t, I_f, I_lt_t, I_lt_f, isb_0, isb_1, vz_0, vz_1, nn_nat] <;> rw [if_neg hj]
  · rw [mod5 (by omega), aS_I _ _ (by omega), if_pos rfl, ne_eq, I_nn (by omega)]
    exact fun z => z
def Tk (s : Nat) (ct c : St) : Prop := Fs [1, 2, 3, 4] ct c ∧ (∀ q, q = 1 ∨ q = 2 ∨ q = 3 ∨ q = 4 → ∀ j, j ≠ s → c q j = ct q j) ∧ Own s c
theorem Tk.off {s : Nat} {ct c d : St} (h : Tk s ct c) (k : Fs [1, 2, 3, 4] c d ∧ (∀ q, q = 1 ∨ q = 2 ∨ q = 3 ∨ q = 4 → ∀ j, j ≠ s → d q j = c q j) ∧ (d = c ∨ d 4 s ≠ nn)) : Tk s ct d := by
  obtain ⟨k1, k2, k3⟩ := k
  refine ⟨h.1.trans k1, fun q hq j hj => (k2 q hq j hj).trans (h.2.1 q hq j hj), ?_⟩
  rcases k3 with rfl | k3
  · exact h.2.2
  · exact fun z => absurd z k3
theorem p_take (ct cw : St) (x : Int32) : Pc (fX3_takeBest ct cw x) (fun c => ∃ s, s < 6 ∧ x = I s ∧ Tk s ct c) := by
  unfold fX3_takeBest
  refine pc_ck fun h => pc_ck fun _ => pc_ck fun _ => pc_ck fun _ => pc_bd pc_any fun p _ => ?_
  obtain ⟨s, hs, rfl⟩ := in6 h
  have h0 : Tk s ct (aS (aS (aS (aS ct 1 (I s) (I s)) 2 (I s) 0) 3 (I s) 0) 4 (I s) (-1)) := by
    refine ⟨((((Fs.refl _ _).aS (by decide) _ _).aS (by decide) _ _).aS (by decide) _ _).aS (by decide) _ _, ?_, fun _ => ?_⟩
    · intro q hq j hj
      rcases hq with rfl | rfl | rfl | rfl <;> simp (disch := omega) only [ck1, bd1, bx1, bx2, aS_at, iS_at, upd_at, ↓reduceIte, Nat.reduceEqDiff, Nat.reduceAdd, Nat.reduceMul, Nat.reduceSub, Nat.reduceDiv, Nat.reduceLT, Nat.reduceLeDiff, Nat.reduceBEq, ne_eq, not_true_eq_false, not_false_eq_true, reduceCtorEq, if_true, if_false, eq_self, Nat.add_zero, Nat.zero_add, lit, lit_nn, I_nat, I_add, I_mul, I_sub, I_div, inb_t, I_ne, I_nn, nn_I, nn_lt, nn_le, lt_nn, le_nn, I_t, I_f, I_lt_t, I_lt_f, isb_0, isb_1, vz_0, vz_1, nn_nat] <;> rw [if_neg hj]
    · simp (disch := omega) only [ck1, bd1, bx1, bx2, aS_at, iS_at, upd_at, ↓reduceIte, Nat.reduceEqDiff, Nat.reduceAdd, Nat.reduceMul, Nat.reduceSub, Nat.reduceDiv, Nat.reduceLT, Nat.reduceLeDiff, Nat.reduceBEq, ne_eq, not_true_eq_false, not_false_eq_true, reduceCtorEq, if_true, if_false, eq_self, Nat.add_zero, Nat.zero_add, lit, lit_nn, I_nat, I_add, I_mul, I_sub, I_div, inb_t, I_ne, I_nn, nn_I, nn_lt, nn_le, lt_nn, le_nn, I_t, I_f, I_lt_t, I_lt_f, isb_0, isb_1, vz_0, vz_1, nn_nat]
      exact ⟨trivial, trivial, trivial⟩
  unfold fX3_takeBest_L36
  refine pc_loop (fun a => Tk s ct a.1) (fun rec hr a ha => ?_) _ _ h0
  unfold fX3_takeBest_S36
  refine pc_if (fun _ => ?_) (fun _ => pc_ck fun _ => pc_if (fun _ => hr _ ha) (fun _ => pc_bd (p_offer _ _ hs _) fun q hq => hr _ (ha.off hq)))
  unfold fX3_takeBest_J68 fX3_takeBest_L78
  refine pc_ck fun _ => pc_loop (fun a => Tk s ct a.1) (fun rec hr a ha => ?_) _ _ ha
  unfold fX3_takeBest_S78
  refine pc_if (fun _ => pc_some ⟨s, hs, rfl, ha⟩) (fun _ => pc_ck fun _ => pc_if (fun _ => pc_ck fun _ => pc_if (fun _ => hr _ ha) (fun _ => pc_ck fun _ => pc_bd pc_any fun q _ => pc_if (fun _ => pc_bd (p_offer _ _ hs _) fun q hq => hr _ (ha.off hq)) (fun _ => hr _ ha))) (fun _ => hr _ ha))
theorem p_role (ct cw : St) (x : Int32) : Pc (fX3_roleOf ct cw x) (fun r => ∃ k, k < 30 ∧ x = I k ∧ (cw 0 k = nn → r = I 0) ∧ (ct 5 k ≠ I 0 → r = I 0) ∧ (cw 0 k ≠ nn → ct 5 k = I 0 → (r = I 1 ∧ ct 4 (k / 5) = I (k % 5)) ∨ (r = I 2 ∧ ct 4 (k / 5) ≠ I (k % 5) ∧ (ct 10 k = nn ∨ fX3_isHeldBetter ct cw (I k) ≠ some (I 0))) ∨ (r = I 3 ∧ ct 4 (k / 5) ≠ I (k % 5) ∧ ct 10 k ≠ nn ∧ fX3_isHeldBetter ct cw (I k) = some (I 0)))) := by
  unfold fX3_roleOf
  refine pc_ck fun h => ?_
  obtain ⟨k, hk, rfl⟩ := in30 h
  rw [I_nat (by omega)]
  refine pc_if (fun c => pc_some ⟨k, hk, rfl, fun _ => rfl, fun _ => rfl, fun z => absurd c z⟩) (fun c => pc_bd (p_isShut ct (I k)) fun q hq => ?_)
  obtain ⟨k', hk', ek, hq⟩ := hq
  rw [I_inj (by omega) (by omega)] at ek
  subst ek
  refine pc_if (fun d => pc_ck fun _ => ?_) (fun d => pc_some ?_)
  · have h5 : ct 5 k = I 0 := by
      rcases hq with hq | hq
      · exact hq.2
      · rw [hq.1] at d; exact absurd d (by decide)
    rw [mod5 (by omega), div5 (by omega), I_nat (by omega)]
    refine pc_if (fun e => pc_some ⟨k, hk, rfl, fun z => absurd z c, fun z => absurd h5 z, fun _ _ => Or.inl ⟨rfl, e⟩⟩) (fun e => pc_ck fun _ => pc_if (fun f => pc_some ⟨k, hk, rfl, fun z => absurd z c, fun z => absurd h5 z, fun _ _ => Or.inr (Or.inl ⟨rfl, e, Or.inl f⟩)⟩) (fun f => pc_bd (Ψ := fun q => fX3_isHeldBetter ct cw (I k) = some q) (fun r hr => hr) fun q hq => pc_if (fun g => pc_some ⟨k, hk, rfl, fun z => absurd z c, fun z => absurd h5 z, fun _ _ => Or.inr (Or.inr ⟨rfl, e, f, ?_⟩)⟩) (fun g => pc_some ⟨k, hk, rfl, fun z => absurd z c, fun z => absurd h5 z, fun _ _ => Or.inr (Or.inl ⟨rfl, e, Or.inr ?_⟩)⟩)))
    · rw [hq, g]; rfl
    · rw [hq]
      intro z
      exact g (Option.some.inj z)
  · rcases hq with hq | hq
    · exact absurd hq.1 d
    · exact ⟨k, hk, rfl, fun _ => rfl, fun _ => rfl, fun _ z => absurd z hq.2⟩

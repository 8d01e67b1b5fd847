/-! ===== frames, and the parts of a beat ===== -/
def Fs (L : List Nat) (a b : St) : Prop := ∀ q, q ∉ L → b q = a q
theorem Fs.refl (L : List Nat) (a : St) : Fs L a a := fun _ _ => rfl
theorem Fs.trans {L : List Nat} {a b c : St} (h : Fs L a b) (k : Fs L b c) : Fs L a c := fun q hq => (k q hq).trans (h q hq)
theorem Fs.mono {L M : List Nat} {a b : St} (h : Fs L a b) (k : ∀ q, q ∈ L → q ∈ M) : Fs M a b := fun q hq => h q (fun z => hq (k q z))
theorem Fs.aS {L : List Nat} {a b : St} (h : Fs L a b) {k : Nat} (hk : k ∈ L) (i x : Int32) : Fs L a (aS b k i x) := fun q hq => (aS_ne b k i x (fun e => hq (by rw [e]; exact hk))).trans (h q hq)
theorem Fs.iS {L : List Nat} {a b : St} (h : Fs L a b) {k : Nat} (hk : k ∈ L) (x : Int32) : Fs L a (iS b k x) := fun q hq => (iS_ne b k x (fun e => hq (by rw [e]; exact hk))).trans (h q hq)
theorem p_tell (ct cw : St) : Pc (fX3_tell ct cw) (Fs [10, 11, 12] ct) := by
  unfold fX3_tell fX3_tell_L2
  refine pc_loop (fun a => Fs [10, 11, 12] ct a.1) (fun rec hr a ha => ?_) _ _ (Fs.refl _ _)
  unfold fX3_tell_S2
  refine pc_if (fun _ => pc_some ha) (fun _ => pc_ck fun _ => pc_bd pc_any fun q _ => pc_if (fun _ => hr _ ?_) (fun _ => ?_))
  · exact ha.aS (by decide) _ _
  · refine pc_ck fun _ => pc_ck fun _ => pc_ck fun _ => pc_ck fun _ => pc_ck fun _ => pc_ck fun _ => pc_ck fun _ => hr _ ?_
    exact (((ha.aS (by decide) _ _).aS (by decide) _ _).aS (by decide) _ _).aS (by decide) _ _
theorem nn_ne0 : nn ≠ I 0 := by rw [ne_eq, nn_I (by omega)]; exact fun z => z
theorem p_guard (ct cw : St) : Pc (fX3_guardForHouses ct cw) (fun c => Fs [5, 6, 7, 8, 10, 13] ct c ∧ (XA cw ct → XA cw c) ∧ ∀ k, k < 30 → ct 5 k = I 0 → c 5 k = I 0 ∨ c 13 k ≠ I 0) := by
  unfold fX3_guardForHouses fX3_guardForHouses_L2
  refine pc_loop (fun a => ∃ t, t ≤ 30 ∧ a.2 = I t ∧ Fs [5, 6, 7, 8, 10, 13] ct a.1 ∧ (XA cw ct → XA cw a.1) ∧ (∀ k, k < t → ct 5 k = I 0 → a.1 5 k = I 0 ∨ a.1 13 k ≠ I 0) ∧ ∀ k, t ≤ k → a.1 5 k = ct 5 k) (fun rec hr a ha => ?_) _ _ ⟨0, by omega, rfl, Fs.refl _ _, fun h => h, fun k hk => by omega, fun _ _ => rfl⟩
  obtain ⟨c, x⟩ := a
  obtain ⟨t, ht, e, h1, h2, h3, h4⟩ := ha
  have e : x = I t := e
  subst e
  have h1 : Fs [5, 6, 7, 8, 10, 13] ct c := h1
  have h2 : XA cw ct → XA cw c := h2
  have h3 : ∀ k, k < t → ct 5 k = I 0 → c 5 k = I 0 ∨ c 13 k ≠ I 0 := h3
  have h4 : ∀ k, t ≤ k → c 5 k = ct 5 k := h4
  show Pc (fX3_guardForHouses_S2 rec cw c (I t)) _
  unfold fX3_guardForHouses_S2
  refine pc_if (fun q => pc_some ⟨h1, h2, fun k hk => ?_⟩) (fun q => ?_)
  · have : 30 ≤ t := by
      rw [show (30 : Int32) = I 30 from rfl, I_le (by omega) (by omega)] at q
      exact q
    exact h3 k (by omega)
  · have ht2 : t < 30 := by
      rw [show (30 : Int32) = I 30 from rfl, I_le (by omega) (by omega)] at q
      omega
    have both : ∀ y : Int32, (y = I 0 ∨ y = I 1) → Pc (fX3_guardForHouses_J41 rec c cw (I t) y (I t)) (fun c => Fs [5, 6, 7, 8, 10, 13] ct c ∧ (XA cw ct → XA cw c) ∧ ∀ k, k < 30 → ct 5 k = I 0 → c 5 k = I 0 ∨ c 13 k ≠ I 0) := by
      intro y hy
      unfold fX3_guardForHouses_J41
      have hv : vp_nar .boolean y = y := by rcases hy with rfl | rfl <;> decide
      rw [hv]
      refine pc_ck fun _ => pc_ck fun _ => pc_if (fun z => hr _ ⟨t + 1, by omega, I_add t 1, h1.aS (by decide) _ _, fun h => (h2 h).ext ?_ ?_ ?_, fun k hk hc => ?_, fun k hk => ?_⟩) (fun z => pc_ck fun _ => pc_bd (p_beginShut _ _ _) fun d hd => ?_)
      · exact aS_ne c 13 (I t) y (j := 5) (by decide)
      · exact aS_ne c 13 (I t) y (j := 6) (by decide)
      · exact aS_ne c 13 (I t) y (j := 7) (by decide)
      · show aS c 13 (I t) y 5 k = _ ∨ aS c 13 (I t) y 13 k ≠ _
        rw [aS_ne _ _ _ _ (by decide)]
        by_cases e : k = t
        · subst e; left; rw [h4 k (by omega)]; exact hc
        · rw [aS_I _ _ (by omega), if_neg e]; exact h3 k (by omega) hc
      · show aS c 13 (I t) y 5 k = _
        rw [aS_ne _ _ _ _ (by decide)]; exact h4 k (by omega)
      · obtain ⟨k, hk, ek, rfl⟩ := hd
        rw [I_inj (by omega) (by omega)] at ek
        subst ek
        have hy1 : y = I 1 := by
          rcases hy with rfl | rfl
          · rw [I_nat (by omega), aS_I _ _ (by omega), if_pos rfl] at z
            exact absurd rfl z
          · rfl
        subst hy1
        refine hr _ ⟨t + 1, by omega, I_add t 1, ?_, fun h => ?_, fun k hk hc => ?_, fun k hk => ?_⟩
        · exact (((((h1.aS (by decide) _ _).aS (by decide) _ _).aS (by decide) _ _).aS (by decide) _ _).aS (by decide) _ _).aS (by decide) _ _
        · exact XA.begin ((h2 h).ext (by simp only [ck1, bd1, bx1, bx2, aS_at, iS_at, upd_at, ↓reduceIte, Nat.reduceEqDiff, Nat.reduceAdd, Nat.reduceMul, Nat.reduceSub, Nat.reduceDiv, Nat.reduceLT, Nat.reduceLeDiff, Nat.reduceBEq, ne_eq, not_true_eq_false, not_false_eq_true, reduceCtorEq, if_true, if_false, eq_self, Nat.add_zero, Nat.zero_add, lit, lit_nn, I_nat, I_add, I_mul, I_sub, I_div, inb_t, I_ne, I_nn, nn_I, nn_lt, nn_le, lt_nn, le_nn, I_t, I_f, I_lt_t, I_lt_f, isb_0, isb_1, vz_0, vz_1, nn_nat]) (by simp only [ck1, bd1, bx1, bx2, aS_at, iS_at, upd_at, ↓reduceIte, Nat.reduceEqDiff, Nat.reduceAdd, Nat.reduceMul, Nat.reduceSub, Nat.reduceDiv, Nat.reduceLT, Nat.reduceLeDiff, Nat.reduceBEq, ne_eq, not_true_eq_false, not_false_eq_true, reduceCtorEq, if_true, if_false, eq_self, Nat.add_zero, Nat.zero_add, lit, lit_nn, I_nat, I_add, I_mul, I_sub, I_div, inb_t, I_ne, I_nn, nn_I, nn_lt, nn_le, lt_nn, le_nn, I_t, I_f, I_lt_t, I_lt_f, isb_0, isb_1, vz_0, vz_1, nn_nat]) (by simp only [ck1, bd1, bx1, bx2, aS_at, iS_at, upd_at, ↓reduceIte, Nat.reduceEqDiff, Nat.reduceAdd, Nat.reduceMul, Nat.reduceSub, Nat.reduceDiv, Nat.reduceLT, Nat.reduceLeDiff, Nat.reduceBEq, ne_eq, not_true_eq_false, not_false_eq_true, reduceCtorEq, if_true, if_false, eq_self, Nat.add_zero, Nat.zero_add, lit, lit_nn, I_nat, I_add, I_mul, I_sub, I_div, inb_t, I_ne, I_nn, nn_I, nn_lt, nn_le, lt_nn, le_nn, I_t, I_f, I_lt_t, I_lt_f, isb_0, isb_1, vz_0, vz_1, nn_nat])) ht2 nn_ne0
        · dsimp only
          by_cases e : k = t
          · subst e; right
            simp (disch := omega) only [ck1, bd1, bx1, bx2, aS_at, iS_at, upd_at, ↓reduceIte, Nat.reduceEqDiff, Nat.reduceAdd, Nat.reduceMul, Nat.reduceSub, Nat.reduceDiv, Nat.reduceLT, Nat.reduceLeDiff, Nat.reduceBEq, ne_eq, not_true_eq_false, not_false_eq_true, reduceCtorEq, if_true, if_false, eq_self, Nat.add_zero, Nat.zero_add, lit, lit_nn, I_nat, I_add, I_mul, I_sub, I_div, inb_t, I_ne, I_nn, nn_I, nn_lt, nn_le, lt_nn, le_nn, I_t, I_f, I_lt_t, I_lt_f, isb_0, isb_1, vz_0, vz_1, nn_nat]
          · simp (disch := omega) only [ck1, bd1, bx1, bx2, aS_at, iS_at, upd_at, ↓reduceIte, Nat.reduceEqDiff, Nat.reduceAdd, Nat.reduceMul, Nat.reduceSub, Nat.reduceDiv, Nat.reduceLT, Nat.reduceLeDiff, Nat.reduceBEq, ne_eq, not_true_eq_false, not_false_eq_true, reduceCtorEq, if_true, if_false, eq_self, Nat.add_zero, Nat.zero_add, lit, lit_nn, I_nat, I_add, I_mul, I_sub, I_div, inb_t, I_ne, I_nn, nn_I, nn_lt, nn_le, lt_nn, le_nn, I_t, I_f, I_lt_t, I_lt_f, isb_0, isb_1, vz_0, vz_1, nn_nat]
            rw [if_neg e, if_neg e]
            exact h3 k (by omega) hc
        · dsimp only
          simp (disch := omega) only [ck1, bd1, bx1, bx2, aS_at, iS_at, upd_at, ↓reduceIte, Nat.reduceEqDiff, Nat.reduceAdd, Nat.reduceMul, Nat.reduceSub, Nat.reduceDiv, Nat.reduceLT, Nat.reduceLeDiff, Nat.reduceBEq, ne_eq, not_true_eq_false, not_false_eq_true, reduceCtorEq, if_true, if_false, eq_self, Nat.add_zero, Nat.zero_add, lit, lit_nn, I_nat, I_add, I_mul, I_sub, I_div, inb_t, I_ne, I_nn, nn_I, nn_lt, nn_le, lt_nn, le_nn, I_t, I_f, I_lt_t, I_lt_f, isb_0, isb_1, vz_0, vz_1, nn_nat]
          rw [if_neg (by omega)]
          exact h4 k (by omega)
    refine pc_ck fun _ => pc_if (fun _ => pc_ck fun _ => pc_if (fun _ => ?_) (fun _ => both _ (Or.inr rfl))) (fun _ => ?_)
    · exact both _ (Or.inl rfl)
    · exact both _ (Or.inl rfl)

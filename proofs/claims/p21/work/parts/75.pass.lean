/-! ===== a beat of the tree ===== -/
/-- what a pass leaves: the ports' law, who is caught, who holds itself -/
def PassK (cw ct c : St) : Prop := c 9 0 = ct 9 0 + 1 ∧ (XA cw ct → XA cw c) ∧ (∀ k, k < 30 → ct 5 k = I 0 → c 5 k = I 0 ∨ c 13 k ≠ I 0) ∧ (∀ s, s < 6 → Own s c) ∧ c 15 = ct 15
theorem p_pass (ct cw : St) (ho : OneW cw) : Pc (fX3_pass ct cw) (PassK cw ct) := by
  unfold fX3_pass
  refine pc_bd (p_tell _ _) fun c1 h1 => pc_bd (p_guard _ _) fun c2 h2 => ?_
  obtain ⟨g1, g2, g3⟩ := h2
  have e9 : c2 9 0 = ct 9 0 + 1 := by
    rw [g1 9 (by decide), h1 9 (by decide)]
    simp (disch := omega) only [ck1, bd1, bx1, bx2, aS_at, iS_at, upd_at, ↓reduceIte, Nat.reduceEqDiff, Nat.reduceAdd, Nat.reduceMul, Nat.reduceSub, Nat.reduceDiv, Nat.reduceLT, Nat.reduceLeDiff, Nat.reduceBEq, ne_eq, not_true_eq_false, not_false_eq_true, reduceCtorEq, if_true, if_false, eq_self, Nat.add_zero, Nat.zero_add, lit, lit_nn, I_nat, I_add, I_mul, I_sub, I_div, inb_t, I_ne, I_nn, nn_I, nn_lt, nn_le, lt_nn, le_nn, I_t, I_f, I_lt_t, I_lt_f, isb_0, isb_1, vz_0, vz_1, nn_nat]
  have x2 : XA cw ct → XA cw c2 := fun h => g2 ((h.ext (c := iS ct 9 (ct 9 0 + 1)) (iS_ne _ _ _ (by decide)) (iS_ne _ _ _ (by decide)) (iS_ne _ _ _ (by decide))).ext (h1 5 (by decide)) (h1 6 (by decide)) (h1 7 (by decide)))
  have s2 : ∀ k, k < 30 → ct 5 k = I 0 → c2 5 k = I 0 ∨ c2 13 k ≠ I 0 := fun k hk e => g3 k hk (by rw [h1 5 (by decide), iS_ne _ _ _ (by decide)]; exact e)
  have e15 : c2 15 = ct 15 := by rw [g1 15 (by decide), h1 15 (by decide), iS_ne _ _ _ (by decide)]
  unfold fX3_pass_L20
  refine pc_loop (fun a => ∃ t, t ≤ 6 ∧ a.2 = I t ∧ Fs [1, 2, 3, 4, 14] c2 a.1 ∧ ∀ s, s < t → Own s a.1) (fun rec hr a ha => ?_) _ _ ⟨0, by omega, rfl, Fs.refl _ _, fun s hs => by omega⟩
  obtain ⟨c, x⟩ := a
  obtain ⟨t, ht, e, f1, f2⟩ := ha
  have e : x = I t := e
  subst e
  dsimp only at f1 f2
  unfold fX3_pass_S20
  refine pc_if (fun q => ?_) (fun q => pc_ck fun ht2 => pc_bd (p_take _ _ _) fun d hd => hr _ ?_)
  · have t6 : t = 6 := by
      dsimp only at q
      rw [show (6 : Int32) = I 6 from rfl, I_le (by omega) (by omega)] at q
      omega
    subst t6
    unfold fX3_pass_J44 fX3_pass_L46
    refine pc_loop (fun a => Fs [6, 7, 8, 14] c a.1 ∧ (XA cw c → XA cw a.1)) (fun rec2 hr2 b hb => ?_) _ _ ⟨Fs.refl _ _, fun h => h⟩
    obtain ⟨d, y⟩ := b
    obtain ⟨k1, k2⟩ := hb
    dsimp only at k1 k2
    unfold fX3_pass_S46
    refine pc_if (fun _ => ?_) (fun _ => pc_bd (p_turn _ _ _) fun z hz => hr2 _ ?_)
    · unfold fX3_pass_J63
      refine pc_bd (p_spread _ _) fun u hu => pc_bd (p_storms _ _ ho) fun v hv => pc_some ?_
      obtain ⟨v1, v2, v3, -⟩ := hv
      have hu : Fs [14] d u := hu
      refine ⟨?_, fun h => ?_, fun k hk e => ?_, fun s hs => ?_, ?_⟩
      · rw [v1 9 (by decide), hu 9 (by decide), k1 9 (by decide), f1 9 (by decide), e9]
      · refine v2 ((k2 ((x2 h).ext (f1 5 (by decide)) (f1 6 (by decide)) (f1 7 (by decide)))).ext (hu 5 (by decide)) (hu 6 (by decide)) (hu 7 (by decide)))
      · rcases s2 k hk e with w | w
        · left
          refine v3 k hk ?_
          rw [hu 5 (by decide), k1 5 (by decide), f1 5 (by decide), w]
        · right
          rw [v1 13 (by decide), hu 13 (by decide), k1 13 (by decide), f1 13 (by decide)]
          exact w
      · unfold Own
        rw [v1 4 (by decide), hu 4 (by decide), k1 4 (by decide), v1 1 (by decide), hu 1 (by decide), k1 1 (by decide), v1 2 (by decide), hu 2 (by decide), k1 2 (by decide), v1 3 (by decide), hu 3 (by decide), k1 3 (by decide)]
        exact f2 s hs
      · rw [v1 15 (by decide), hu 15 (by decide), k1 15 (by decide), f1 15 (by decide), e15]
    · obtain ⟨k, r, hk, -, hr0, ht0⟩ := hz
      exact ⟨k1.trans ht0.1, fun h => ht0.xa hk hr0 ho (k2 h)⟩
  · obtain ⟨s, hs, es, d1, d2, d3⟩ := hd
    rw [I_inj (by omega) (by omega)] at es
    subst es
    refine ⟨t + 1, by omega, I_add t 1, ?_, fun s hs2 => ?_⟩
    · exact (f1.aS (by decide) _ _).trans (d1.mono (by decide))
    · dsimp only
      by_cases e : s = t
      · subst e; exact d3
      · have q := f2 s (by omega)
        unfold Own
        rw [d2 4 (by simp) s e, d2 1 (by simp) s e, d2 2 (by simp) s e, d2 3 (by simp) s e]
        simp (disch := omega) only [ck1, bd1, bx1, bx2, aS_at, iS_at, upd_at, ↓reduceIte, Nat.reduceEqDiff, Nat.reduceAdd, Nat.reduceMul, Nat.reduceSub, Nat.reduceDiv, Nat.reduceLT, Nat.reduceLeDiff, Nat.reduceBEq, ne_eq, not_true_eq_false, not_false_eq_true, reduceCtorEq, if_true, if_false, eq_self, Nat.add_zero, Nat.zero_add, lit, lit_nn, I_nat, I_add, I_mul, I_sub, I_div, inb_t, I_ne, I_nn, nn_I, nn_lt, nn_le, lt_nn, le_nn, I_t, I_f, I_lt_t, I_lt_f, isb_0, isb_1, vz_0, vz_1, nn_nat]
        exact q

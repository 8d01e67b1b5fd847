/-! ===== the guards for houses ===== -/
theorem fchain_ext {a b : Nat → Int32} {c : St} : ∀ k, (∀ x, x < k → a x = b x) → fchain a k c = fchain b k c := by
  intro k
  induction k with
  | zero => intro _; rfl
  | succ k ih =>
    intro h
    simp only [fchain, ih (fun x hx => h x (by omega)), h k (by omega)]
/-- what a beat leaves alone of the reference -/
def Fb (a b : St) : Prop := ∀ q, (1 ≤ q ∧ q ≤ 9) ∨ (29 ≤ q ∧ q ≤ 38) ∨ q = 40 → a q = b q
theorem Fb.refl (a : St) : Fb a a := fun _ _ => rfl
theorem Fb.trans {a b c : St} (h : Fb a b) (k : Fb b c) : Fb a c := fun q hq => (h q hq).trans (k q hq)
theorem Fm.fb {a b : St} (h : Fm a b) : Fb a b := fun q hq => h q (by omega)
theorem Fb.aS (a : St) (k : Nat) (i x : Int32) (h : ¬ ((1 ≤ k ∧ k ≤ 9) ∨ (29 ≤ k ∧ k ≤ 38) ∨ k = 40)) : Fb (aS a k i x) a := by
  intro q hq
  rw [aS_at, if_neg]
  intro e
  subst e
  exact h hq
theorem Fb.iS (a : St) (k : Nat) (x : Int32) (h : ¬ ((1 ≤ k ∧ k ≤ 9) ∨ (29 ≤ k ∧ k ≤ 38) ∨ k = 40)) : Fb (iS a k x) a := by
  intro q hq
  rw [iS_at, if_neg]
  intro e
  subst e
  exact h hq
theorem Fb.pF (a : St) (k : Nat) (f : Nat → Int32) (h : ¬ ((1 ≤ k ∧ k ≤ 9) ∨ (29 ≤ k ∧ k ≤ 38) ∨ k = 40)) : Fb (pF a k f) a := by
  intro q hq
  rw [pF_at, if_neg]
  intro e
  subst e
  exact h hq
def TellAll (ct mm : St) : Prop := ∀ x, x < 30 → Told (mm 3) (mm 10) (ct 10) (ct 11) (ct 12) (mm 20) (mm 21) (mm 22) x
theorem guard_step {N : Nat} {cs cw ct cl cb mm : St} (h : Rel N cs cw ct cl cb mm) (ht : TellAll ct mm) {k : Nat} (hk : k < 30) {c0 : St} (hf : fchain (ct 13) k c0 = some cb) : ∃ ct' cb' mm', Rel N cs cw ct' cl cb' mm' ∧ TellAll ct' mm' ∧ fchain (ct' 13) (k + 1) c0 = some cb' ∧ Fb mm' mm ∧ (∀ rec, fX3_guardForHouses_S2 rec cw ct (I k) = rec (ct', I (k + 1))) ∧ (∀ rec, fX6_guardsHouses_S2 rec mm (I k) = rec (mm', I (k + 1))) := by
  have hg := (h.2.2.2.2.2.2.2.2.2.2.1 k hk).2.2.2
  have skip : (cw 3 k ≠ I 2 ∨ ct 10 k = nn) → ∃ ct' cb' mm', Rel N cs cw ct' cl cb' mm' ∧ TellAll ct' mm' ∧ fchain (ct' 13) (k + 1) c0 = some cb' ∧ Fb mm' mm ∧ (∀ rec, fX3_guardForHouses_S2 rec cw ct (I k) = rec (ct', I (k + 1))) ∧ (∀ rec, fX6_guardsHouses_S2 rec mm (I k) = rec (mm', I (k + 1))) := by
    intro z
    refine ⟨aS ct 13 (I k) (I 0), cb, mm, h, ht, ?_, Fb.refl _, fun rec => ?_, fun rec => ?_⟩
    · have e : fchain ((aS ct 13 (I k) (I 0)) 13) k c0 = some cb := by
        rw [← hf]
        refine fchain_ext k fun x hx => ?_
        simp (disch := omega) only [ck1, bd1, bx1, bx2, aS_at, iS_at, upd_at, ↓reduceIte, Nat.reduceEqDiff, Nat.reduceAdd, Nat.reduceMul, Nat.reduceSub, Nat.reduceDiv, Nat.reduceLT, Nat.reduceLeDiff, Nat.reduceBEq, ne_eq, not_true_eq_false, not_false_eq_true, reduceCtorEq, if_true, if_false, eq_self, Nat.add_zero, Nat.zero_add, lit, lit_nn, I_nat, I_add, I_mul, I_sub, I_div, inb_t, I_ne, I_nn, nn_I, nn_lt, nn_le, lt_nn, le_nn, I_t, I_f, I_lt_t, I_lt_f, isb_0, isb_1, vz_0, vz_1, nn_nat]
        rw [if_neg (by omega)]
      have e2 : (aS ct 13 (I k) (I 0)) 13 k = I 0 := by simp (disch := omega) only [ck1, bd1, bx1, bx2, aS_at, iS_at, upd_at, ↓reduceIte, Nat.reduceEqDiff, Nat.reduceAdd, Nat.reduceMul, Nat.reduceSub, Nat.reduceDiv, Nat.reduceLT, Nat.reduceLeDiff, Nat.reduceBEq, ne_eq, not_true_eq_false, not_false_eq_true, reduceCtorEq, if_true, if_false, eq_self, Nat.add_zero, Nat.zero_add, lit, lit_nn, I_nat, I_add, I_mul, I_sub, I_div, inb_t, I_ne, I_nn, nn_I, nn_lt, nn_le, lt_nn, le_nn, I_t, I_f, I_lt_t, I_lt_f, isb_0, isb_1, vz_0, vz_1, nn_nat]
      simp only [fchain, e, e2, if_true]
    · by_cases z1 : cw 3 k = I 2
      · rcases z with z | z
        · exact absurd z1 z
        · simp (disch := omega) only [fX3_guardForHouses_J41, fX3_guardForHouses_J40, fX3_guardForHouses_S2, fX3_guardForHouses_L2, fX3_guardForHouses, ck1, bd1, bx1, bx2, aS_at, iS_at, upd_at, ↓reduceIte, Nat.reduceEqDiff, Nat.reduceAdd, Nat.reduceMul, Nat.reduceSub, Nat.reduceDiv, Nat.reduceLT, Nat.reduceLeDiff, Nat.reduceBEq, ne_eq, not_true_eq_false, not_false_eq_true, reduceCtorEq, if_true, if_false, eq_self, Nat.add_zero, Nat.zero_add, lit, lit_nn, I_nat, I_add, I_mul, I_sub, I_div, inb_t, I_ne, I_nn, nn_I, nn_lt, nn_le, lt_nn, le_nn, I_t, I_f, I_lt_t, I_lt_f, isb_0, isb_1, vz_0, vz_1, nn_nat, z1, z]
      · simp (disch := omega) only [fX3_guardForHouses_J41, fX3_guardForHouses_J40, fX3_guardForHouses_S2, fX3_guardForHouses_L2, fX3_guardForHouses, ck1, bd1, bx1, bx2, aS_at, iS_at, upd_at, ↓reduceIte, Nat.reduceEqDiff, Nat.reduceAdd, Nat.reduceMul, Nat.reduceSub, Nat.reduceDiv, Nat.reduceLT, Nat.reduceLeDiff, Nat.reduceBEq, ne_eq, not_true_eq_false, not_false_eq_true, reduceCtorEq, if_true, if_false, eq_self, Nat.add_zero, Nat.zero_add, lit, lit_nn, I_nat, I_add, I_mul, I_sub, I_div, inb_t, I_ne, I_nn, nn_I, nn_lt, nn_le, lt_nn, le_nn, I_t, I_f, I_lt_t, I_lt_f, isb_0, isb_1, vz_0, vz_1, nn_nat, z1]
    · by_cases z1 : cw 3 k = I 2
      · rcases z with z | z
        · exact absurd z1 z
        · rcases ht k hk with ⟨-, w⟩ | ⟨j, r, c, e, -, -, -, hr, -, -, w, -⟩
          · rw [hg] at z1
            simp (disch := omega) only [fX6_guardsHouses_S2, ck1, bd1, bx1, bx2, aS_at, iS_at, upd_at, ↓reduceIte, Nat.reduceEqDiff, Nat.reduceAdd, Nat.reduceMul, Nat.reduceSub, Nat.reduceDiv, Nat.reduceLT, Nat.reduceLeDiff, Nat.reduceBEq, ne_eq, not_true_eq_false, not_false_eq_true, reduceCtorEq, if_true, if_false, eq_self, Nat.add_zero, Nat.zero_add, lit, lit_nn, I_nat, I_add, I_mul, I_sub, I_div, inb_t, I_ne, I_nn, nn_I, nn_lt, nn_le, lt_nn, le_nn, I_t, I_f, I_lt_t, I_lt_f, isb_0, isb_1, vz_0, vz_1, nn_nat, z1, w]
          · rw [z, nn_I (show r < 2147483648 by omega)] at w
            exact False.elim w
      · rw [hg] at z1
        simp (disch := omega) only [fX6_guardsHouses_S2, ck1, bd1, bx1, bx2, aS_at, iS_at, upd_at, ↓reduceIte, Nat.reduceEqDiff, Nat.reduceAdd, Nat.reduceMul, Nat.reduceSub, Nat.reduceDiv, Nat.reduceLT, Nat.reduceLeDiff, Nat.reduceBEq, ne_eq, not_true_eq_false, not_false_eq_true, reduceCtorEq, if_true, if_false, eq_self, Nat.add_zero, Nat.zero_add, lit, lit_nn, I_nat, I_add, I_mul, I_sub, I_div, inb_t, I_ne, I_nn, nn_I, nn_lt, nn_le, lt_nn, le_nn, I_t, I_f, I_lt_t, I_lt_f, isb_0, isb_1, vz_0, vz_1, nn_nat, z1]
  by_cases z1 : cw 3 k = I 2
  · by_cases z2 : ct 10 k = nn
    · exact skip (Or.inr z2)
    · rcases ht k hk with ⟨w, -⟩ | ⟨j, r, c, e, hj, a1, a2, hr, -, -, w, v, -⟩
      · exact absurd w z2
      · have w3 : ¬ I r = nn := by rw [I_nn (by omega)]; exact fun h => h
        have h0 : Rel N cs cw (aS (aS ct 13 (I k) (I 1)) 10 (I k) nn) cl cb (aS mm 20 (I k) nn) := h
        have hb := begin_shut h0 hk a2
        obtain ⟨c', m', g1, g2, g3, g4⟩ := forget_both hb.2.2.2.2.2.2.2.2.2.2.2.2.2.2.2.2.2.2 hk
        have z3 := z1
        rw [hg] at z3
        refine ⟨_, c', m', hb.tab g3 g4, ?_, ?_, (Fm.fb g3).trans ?_, fun rec => ?_, fun rec => ?_⟩
        · intro x hx
          have q := ht x hx
          unfold Told
          rw [g3 3 (by omega), g3 10 (by omega), g3 20 (by omega), g3 21 (by omega), g3 22 (by omega)]
          simp (disch := omega) only [ck1, bd1, bx1, bx2, aS_at, iS_at, upd_at, ↓reduceIte, Nat.reduceEqDiff, Nat.reduceAdd, Nat.reduceMul, Nat.reduceSub, Nat.reduceDiv, Nat.reduceLT, Nat.reduceLeDiff, Nat.reduceBEq, ne_eq, not_true_eq_false, not_false_eq_true, reduceCtorEq, if_true, if_false, eq_self, Nat.add_zero, Nat.zero_add, lit, lit_nn, I_nat, I_add, I_mul, I_sub, I_div, inb_t, I_ne, I_nn, nn_I, nn_lt, nn_le, lt_nn, le_nn, I_t, I_f, I_lt_t, I_lt_f, isb_0, isb_1, vz_0, vz_1, nn_nat]
          by_cases d : x = k
          · subst d
            simp only [↓reduceIte]
            exact Or.inl ⟨trivial, trivial⟩
          · simp only [d, ↓reduceIte]
            exact q
        · have e2 : (aS (aS (aS (aS (aS (aS ct 13 (I k) (I 1)) 10 (I k) nn) 5 (I k) nn) 6 (I k) (I 0)) 7 (I k) (I 0)) 8 (I k) (I 0)) 13 k = I 1 := by
            simp (disch := omega) only [ck1, bd1, bx1, bx2, aS_at, iS_at, upd_at, ↓reduceIte, Nat.reduceEqDiff, Nat.reduceAdd, Nat.reduceMul, Nat.reduceSub, Nat.reduceDiv, Nat.reduceLT, Nat.reduceLeDiff, Nat.reduceBEq, ne_eq, not_true_eq_false, not_false_eq_true, reduceCtorEq, if_true, if_false, eq_self, Nat.add_zero, Nat.zero_add, lit, lit_nn, I_nat, I_add, I_mul, I_sub, I_div, inb_t, I_ne, I_nn, nn_I, nn_lt, nn_le, lt_nn, le_nn, I_t, I_f, I_lt_t, I_lt_f, isb_0, isb_1, vz_0, vz_1, nn_nat]
          have e : fchain ((aS (aS (aS (aS (aS (aS ct 13 (I k) (I 1)) 10 (I k) nn) 5 (I k) nn) 6 (I k) (I 0)) 7 (I k) (I 0)) 8 (I k) (I 0)) 13) k c0 = some cb := by
            rw [← hf]
            refine fchain_ext k fun x hx => ?_
            simp (disch := omega) only [ck1, bd1, bx1, bx2, aS_at, iS_at, upd_at, ↓reduceIte, Nat.reduceEqDiff, Nat.reduceAdd, Nat.reduceMul, Nat.reduceSub, Nat.reduceDiv, Nat.reduceLT, Nat.reduceLeDiff, Nat.reduceBEq, ne_eq, not_true_eq_false, not_false_eq_true, reduceCtorEq, if_true, if_false, eq_self, Nat.add_zero, Nat.zero_add, lit, lit_nn, I_nat, I_add, I_mul, I_sub, I_div, inb_t, I_ne, I_nn, nn_I, nn_lt, nn_le, lt_nn, le_nn, I_t, I_f, I_lt_t, I_lt_f, isb_0, isb_1, vz_0, vz_1, nn_nat]
            rw [if_neg (by omega)]
          simp only [fchain, e, e2, I01, if_false]
          exact g1
        · exact ((((Fb.aS _ _ _ _ (by omega)).trans (Fb.aS _ _ _ _ (by omega))).trans (Fb.aS _ _ _ _ (by omega))).trans (Fb.aS _ _ _ _ (by omega))).trans (Fb.aS _ _ _ _ (by omega))
        · simp (disch := omega) only [fX3_guardForHouses_J41, fX3_guardForHouses_J40, fX3_guardForHouses_S2, fX3_guardForHouses_L2, fX3_guardForHouses, fX3_beginShut, close_eq _ hk, ck1, bd1, bx1, bx2, aS_at, iS_at, upd_at, ↓reduceIte, Nat.reduceEqDiff, Nat.reduceAdd, Nat.reduceMul, Nat.reduceSub, Nat.reduceDiv, Nat.reduceLT, Nat.reduceLeDiff, Nat.reduceBEq, ne_eq, not_true_eq_false, not_false_eq_true, reduceCtorEq, if_true, if_false, eq_self, Nat.add_zero, Nat.zero_add, lit, lit_nn, I_nat, I_add, I_mul, I_sub, I_div, inb_t, I_ne, I_nn, nn_I, nn_lt, nn_le, lt_nn, le_nn, I_t, I_f, I_lt_t, I_lt_f, isb_0, isb_1, vz_0, vz_1, nn_nat, z1, z2, I01, vz_1]
        · simp (disch := omega) only [fX6_guardsHouses_S2, fX6_shuts, begins_eq _ hk, ck1, bd1, bx1, bx2, aS_at, iS_at, upd_at, ↓reduceIte, Nat.reduceEqDiff, Nat.reduceAdd, Nat.reduceMul, Nat.reduceSub, Nat.reduceDiv, Nat.reduceLT, Nat.reduceLeDiff, Nat.reduceBEq, ne_eq, not_true_eq_false, not_false_eq_true, reduceCtorEq, if_true, if_false, eq_self, Nat.add_zero, Nat.zero_add, lit, lit_nn, I_nat, I_add, I_mul, I_sub, I_div, inb_t, I_ne, I_nn, nn_I, nn_lt, nn_le, lt_nn, le_nn, I_t, I_f, I_lt_t, I_lt_f, isb_0, isb_1, vz_0, vz_1, nn_nat, z3, v, w3]
          rw [g2]
          simp (disch := omega) only [ck1, bd1, bx1, bx2, aS_at, iS_at, upd_at, ↓reduceIte, Nat.reduceEqDiff, Nat.reduceAdd, Nat.reduceMul, Nat.reduceSub, Nat.reduceDiv, Nat.reduceLT, Nat.reduceLeDiff, Nat.reduceBEq, ne_eq, not_true_eq_false, not_false_eq_true, reduceCtorEq, if_true, if_false, eq_self, Nat.add_zero, Nat.zero_add, lit, lit_nn, I_nat, I_add, I_mul, I_sub, I_div, inb_t, I_ne, I_nn, nn_I, nn_lt, nn_le, lt_nn, le_nn, I_t, I_f, I_lt_t, I_lt_f, isb_0, isb_1, vz_0, vz_1, nn_nat]
  · exact skip (Or.inl z1)
theorem guard_both {N : Nat} {cs cw ct cl cb mm : St} (h : Rel N cs cw ct cl cb mm) (ht : TellAll ct mm) : ∃ ct' cb' mm', Rel N cs cw ct' cl cb' mm' ∧ TellAll ct' mm' ∧ fchain (ct' 13) 30 cb = some cb' ∧ Fb mm' mm ∧ fX3_guardForHouses ct cw = some ct' ∧ fX6_guardsHouses mm = some mm' := by
  obtain ⟨s, ⟨q1, q2, q3, q4⟩, h1, h2⟩ := loop_two (ι := Unit) (ι' := Unit) (σ := St × St × St) (step := fun _ k a => fX3_guardForHouses_S2 k cw (a.1) (a.2)) (step' := fun _ k a => fX6_guardsHouses_S2 k (a.1) (a.2)) (fun t s => (s.1, I t)) (fun t s => (s.2.2, I t)) 30 (fun t s => Rel N cs cw s.1 cl s.2.1 s.2.2 ∧ TellAll s.1 s.2.2 ∧ fchain (s.1 13) t cb = some s.2.1 ∧ Fb s.2.2 mm) (fun _ s => some s.1) (fun _ s => some s.2.2)
    (by
      intro t s hk ⟨q1, q2, q3, q4⟩
      obtain ⟨ct', cb', mm', n1, n2, n3, n4, n5, n6⟩ := guard_step q1 q2 hk q3
      exact ⟨(ct', cb', mm'), ⟨n1, n2, n3, n4.trans q4⟩, fun _ => n5, fun _ => n6⟩)
    (by
      intro s _
      refine ⟨fun _ rec => ?_, fun _ rec => ?_⟩
      · simp (disch := omega) only [fX3_guardForHouses_S2, ck1, bd1, bx1, bx2, aS_at, iS_at, upd_at, ↓reduceIte, Nat.reduceEqDiff, Nat.reduceAdd, Nat.reduceMul, Nat.reduceSub, Nat.reduceDiv, Nat.reduceLT, Nat.reduceLeDiff, Nat.reduceBEq, ne_eq, not_true_eq_false, not_false_eq_true, reduceCtorEq, if_true, if_false, eq_self, Nat.add_zero, Nat.zero_add, lit, lit_nn, I_nat, I_add, I_mul, I_sub, I_div, inb_t, I_ne, I_nn, nn_I, nn_lt, nn_le, lt_nn, le_nn, I_t, I_f, I_lt_t, I_lt_f, isb_0, isb_1, vz_0, vz_1, nn_nat]
      · simp (disch := omega) only [fX6_guardsHouses_S2, ck1, bd1, bx1, bx2, aS_at, iS_at, upd_at, ↓reduceIte, Nat.reduceEqDiff, Nat.reduceAdd, Nat.reduceMul, Nat.reduceSub, Nat.reduceDiv, Nat.reduceLT, Nat.reduceLeDiff, Nat.reduceBEq, ne_eq, not_true_eq_false, not_false_eq_true, reduceCtorEq, if_true, if_false, eq_self, Nat.add_zero, Nat.zero_add, lit, lit_nn, I_nat, I_add, I_mul, I_sub, I_div, inb_t, I_ne, I_nn, nn_I, nn_lt, nn_le, lt_nn, le_nn, I_t, I_f, I_lt_t, I_lt_f, isb_0, isb_1, vz_0, vz_1, nn_nat])
    30 0 (ct, cb, mm) 1000 (by omega) (by omega) ⟨h, ht, rfl, Fb.refl _⟩
  exact ⟨s.1, s.2.1, s.2.2, q1, q2, q3, q4, h1 (), h2 ()⟩

theorem p3_self (σ : St) (a b c : Nat) : p3 σ a b c (σ a) (σ b) (σ c) = σ := by
  funext j
  simp only [p3, pF_at]
  by_cases d3 : j = c
  · simp only [d3, ↓reduceIte]
  · by_cases d2 : j = b
    · subst d2; simp only [d3, ↓reduceIte]
    · by_cases d1 : j = a
      · subst d1; simp only [d3, d2, ↓reduceIte]
      · simp only [d3, d2, d1, ↓reduceIte]
theorem tell_both {N : Nat} {cs cw ct cl cb mm : St} (h : Rel N cs cw ct cl cb mm) : ∃ f10 f11 f12 g20 g21 g22, (∀ x, x < 30 → Told (mm 3) (mm 10) f10 f11 f12 g20 g21 g22 x) ∧ fX3_tell ct cw = some (p3 ct 10 11 12 f10 f11 f12) ∧ fX6_tells mm = some (p3 mm 20 21 22 g20 g21 g22) := by
  obtain ⟨s, hQ, h1, h2⟩ := loop_two (ι := Unit) (ι' := Unit) (σ := (Nat → Int32) × (Nat → Int32) × (Nat → Int32) × (Nat → Int32) × (Nat → Int32) × (Nat → Int32)) (step := fun _ k a => fX3_tell_S2 k cw (a.1) (a.2)) (step' := fun _ k a => fX6_tells_S2 k (a.1) (a.2)) (fun t s => (p3 ct 10 11 12 s.1 s.2.1 s.2.2.1, I t)) (fun t s => (p3 mm 20 21 22 s.2.2.2.1 s.2.2.2.2.1 s.2.2.2.2.2, I t)) 30 (fun t s => ∀ x, x < t → Told (mm 3) (mm 10) s.1 s.2.1 s.2.2.1 s.2.2.2.1 s.2.2.2.2.1 s.2.2.2.2.2 x) (fun _ s => some (p3 ct 10 11 12 s.1 s.2.1 s.2.2.1)) (fun _ s => some (p3 mm 20 21 22 s.2.2.2.1 s.2.2.2.2.1 s.2.2.2.2.2))
    (by
      intro t s ht hs
      obtain ⟨a10, a11, a12, b20, b21, b22, n1, n2, n3, n4⟩ := tell_step h ht s.1 s.2.1 s.2.2.1 s.2.2.2.1 s.2.2.2.2.1 s.2.2.2.2.2
      refine ⟨(a10, a11, a12, b20, b21, b22), fun x hx => ?_, fun _ rec => n3 rec, fun _ rec => n4 rec⟩
      by_cases d : x = t
      · subst d; exact n1
      · obtain ⟨e1, e2, e3, e4, e5, e6⟩ := n2 x d
        exact (hs x (by omega)).keep e1 e2 e3 e4 e5 e6)
    (by
      intro s _
      refine ⟨fun _ rec => ?_, fun _ rec => ?_⟩
      · simp (disch := omega) only [fX3_tell_S2, ck1, bd1, bx1, bx2, aS_at, iS_at, upd_at, ↓reduceIte, Nat.reduceEqDiff, Nat.reduceAdd, Nat.reduceMul, Nat.reduceSub, Nat.reduceDiv, Nat.reduceLT, Nat.reduceLeDiff, Nat.reduceBEq, ne_eq, not_true_eq_false, not_false_eq_true, reduceCtorEq, if_true, if_false, eq_self, Nat.add_zero, Nat.zero_add, lit, lit_nn, I_nat, I_add, I_mul, I_sub, I_div, inb_t, I_ne, I_nn, nn_I, nn_lt, nn_le, lt_nn, le_nn, I_t, I_f, I_lt_t, I_lt_f, isb_0, isb_1, vz_0, vz_1, nn_nat]
      · simp (disch := omega) only [fX6_tells_S2, ck1, bd1, bx1, bx2, aS_at, iS_at, upd_at, ↓reduceIte, Nat.reduceEqDiff, Nat.reduceAdd, Nat.reduceMul, Nat.reduceSub, Nat.reduceDiv, Nat.reduceLT, Nat.reduceLeDiff, Nat.reduceBEq, ne_eq, not_true_eq_false, not_false_eq_true, reduceCtorEq, if_true, if_false, eq_self, Nat.add_zero, Nat.zero_add, lit, lit_nn, I_nat, I_add, I_mul, I_sub, I_div, inb_t, I_ne, I_nn, nn_I, nn_lt, nn_le, lt_nn, le_nn, I_t, I_f, I_lt_t, I_lt_f, isb_0, isb_1, vz_0, vz_1, nn_nat])
    30 0 (ct 10, ct 11, ct 12, mm 20, mm 21, mm 22) 1000 (by omega) (by omega) (fun x hx => by omega)
  refine ⟨_, _, _, _, _, _, hQ, ?_, ?_⟩
  · have e := h1 ()
    dsimp only at e
    rw [p3_self] at e
    exact e
  · have e := h2 ()
    dsimp only at e
    rw [p3_self] at e
    exact e

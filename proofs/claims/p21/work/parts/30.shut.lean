/-- two states of the reference that differ in the tables alone -/
def Fm (a b : St) : Prop := ∀ q, q < 24 ∨ 28 < q → a q = b q
theorem Fm.aS {a b : St} (h : Fm a b) (k : Nat) (i x : Int32) : Fm (aS a k i x) (aS b k i x) := by
  intro q hq
  by_cases d : q = k
  · subst d
    simp only [aS_at, ↓reduceIte]
    rw [h q hq]
  · simp only [aS_at, d, ↓reduceIte]
    exact h q hq
theorem Rel.tab {N : Nat} {cs cw ct cl cb mm c' m' : St} (h : Rel N cs cw ct cl cb mm) (f : Fm m' mm) (t : CTab (c' 0) (c' 1) (c' 2) (m' 24) (m' 25) (m' 26) (m' 27) (m' 28)) : Rel N cs cw ct cl c' m' := by
  obtain ⟨p1, p2, p3, p4, p5, p6, p7, p8, p9, c1, c2, c3, c4, c5, c6, c7, c8, c9, c10⟩ := h
  have f0 := f 0 (by omega)
  have f1 := f 1 (by omega)
  have f2 := f 2 (by omega)
  have f3 := f 3 (by omega)
  have f4 := f 4 (by omega)
  have f5 := f 5 (by omega)
  have f6 := f 6 (by omega)
  have f7 := f 7 (by omega)
  have f8 := f 8 (by omega)
  have f9 := f 9 (by omega)
  have f10 := f 10 (by omega)
  have f11 := f 11 (by omega)
  have f12 := f 12 (by omega)
  have f13 := f 13 (by omega)
  have f14 := f 14 (by omega)
  have f15 := f 15 (by omega)
  have f16 := f 16 (by omega)
  have f17 := f 17 (by omega)
  have f18 := f 18 (by omega)
  have f19 := f 19 (by omega)
  have f29 := f 29 (by omega)
  have f30 := f 30 (by omega)
  refine ⟨?_, ?_, ?_, ?_, ?_, ?_, ?_, ?_, (by rw [f10, f14]; exact p9), ?_, ?_, ?_, ?_, ?_, ?_, ?_, ?_, ?_, t⟩
  · rw [f2]; exact p1
  · rw [f3, f4]; exact p2
  · rw [f3, f5]; exact p3
  · rw [f6]; exact p4
  · rw [f7, f8, f9]; exact p5
  · rw [f0, f1]; exact p6
  · rw [f16, f17, f18, f19]; exact p7
  · rw [f3, f5, f10, f11, f12, f13, f14, f19]; exact p8
  · rw [f2]; exact c1
  · rw [f3, f4, f5, f6]; exact c2
  · rw [f5]; exact c3
  · rw [f3, f5]; exact c4
  · rw [f7, f8, f9]; exact c5
  · rw [f16, f17, f18, f19]; exact c6
  · rw [f3, f10, f11, f12, f13, f14]; exact c7
  · rw [f0, f1]; exact c8
  · rw [f15, f29, f30]; exact c9
theorem close_eq (ct : St) {k : Nat} (hk : k < 30) : fX3_close ct (I k) = some (aS (aS (aS ct 6 (I k) (I 0)) 7 (I k) (I 0)) 8 (I k) (I 0)) := by
  simp (disch := omega) only [fX3_close, ck1, bd1, bx1, bx2, aS_at, iS_at, upd_at, ↓reduceIte, Nat.reduceEqDiff, Nat.reduceAdd, Nat.reduceMul, Nat.reduceSub, Nat.reduceDiv, Nat.reduceLT, Nat.reduceLeDiff, Nat.reduceBEq, ne_eq, not_true_eq_false, not_false_eq_true, reduceCtorEq, if_true, if_false, eq_self, Nat.add_zero, Nat.zero_add, lit, lit_nn, I_nat, I_add, I_mul, I_sub, I_div, inb_t, I_ne, I_nn, nn_I, nn_lt, nn_le, lt_nn, le_nn, I_t, I_f, I_lt_t, I_lt_f, isb_0, isb_1, vz_0, vz_1, nn_nat]
/-- the end of a shutting, on both sides -/
theorem end_shut {N : Nat} {cs cw ct cl cb mm : St} (h : Rel N cs cw ct cl cb mm) {k : Nat} (hk : k < 30) (hs : mm 10 k = I 1) : ∃ v, fX3_endShut ct cw (I k) = some (aS (aS ct 5 (I k) (I 0)) 6 (I k) v) ∧ fX6_frees mm (I k) = some (aS (aS (aS mm 10 (I k) (I 0)) 11 (I k) (I 0)) 12 (I k) v) ∧ Rel N cs cw (aS (aS ct 5 (I k) (I 0)) 6 (I k) v) cl cb (aS (aS (aS mm 10 (I k) (I 0)) 11 (I k) (I 0)) 12 (I k) v) := by
  obtain ⟨p1, p2, p3, p4, p5, p6, p7, p8, p9, c1, c2, c3, c4, c5, c6, c7, c8, c9, c10⟩ := h
  have eh := (c2 k hk).2.2.1
  have dk := p8 k hk
  have d7 := c7 k hk
  obtain ⟨o, ho, eo⟩ := dk.2.1
  have o0 : mm 12 k = I 0 := by
    rcases (show o = 0 ∨ o = 1 by omega) with rfl | rfl
    · exact eo
    · have := (dk.2.2.2.2.2.1 eo).1
      rw [hs, I01] at this
      exact False.elim this
  refine ⟨if mm 5 k = nn then I 0 else I 1, ?_, ?_, p1, p2, p3, p4, p5, p6, p7, ?_, p9.free _, c1, c2, c3, c4, c5, c6, ?_, c8, c9, c10⟩
  · by_cases d : mm 5 k = nn
    · simp (disch := omega) only [fX3_endShut, ck1, bd1, bx1, bx2, aS_at, iS_at, upd_at, ↓reduceIte, Nat.reduceEqDiff, Nat.reduceAdd, Nat.reduceMul, Nat.reduceSub, Nat.reduceDiv, Nat.reduceLT, Nat.reduceLeDiff, Nat.reduceBEq, ne_eq, not_true_eq_false, not_false_eq_true, reduceCtorEq, if_true, if_false, eq_self, Nat.add_zero, Nat.zero_add, lit, lit_nn, I_nat, I_add, I_mul, I_sub, I_div, inb_t, I_ne, I_nn, nn_I, nn_lt, nn_le, lt_nn, le_nn, I_t, I_f, I_lt_t, I_lt_f, isb_0, isb_1, vz_0, vz_1, nn_nat, openFor _ _ hk, eh, d, not_true_eq_false, and_false]
    · simp (disch := omega) only [fX3_endShut, ck1, bd1, bx1, bx2, aS_at, iS_at, upd_at, ↓reduceIte, Nat.reduceEqDiff, Nat.reduceAdd, Nat.reduceMul, Nat.reduceSub, Nat.reduceDiv, Nat.reduceLT, Nat.reduceLeDiff, Nat.reduceBEq, ne_eq, not_true_eq_false, not_false_eq_true, reduceCtorEq, if_true, if_false, eq_self, Nat.add_zero, Nat.zero_add, lit, lit_nn, I_nat, I_add, I_mul, I_sub, I_div, inb_t, I_ne, I_nn, nn_I, nn_lt, nn_le, lt_nn, le_nn, I_t, I_f, I_lt_t, I_lt_f, isb_0, isb_1, vz_0, vz_1, nn_nat, openFor _ _ hk, eh, d, and_true]
  · by_cases d : mm 5 k = nn
    · simp (disch := omega) only [fX6_frees, fX6_frees_J34, ck1, bd1, bx1, bx2, aS_at, iS_at, upd_at, ↓reduceIte, Nat.reduceEqDiff, Nat.reduceAdd, Nat.reduceMul, Nat.reduceSub, Nat.reduceDiv, Nat.reduceLT, Nat.reduceLeDiff, Nat.reduceBEq, ne_eq, not_true_eq_false, not_false_eq_true, reduceCtorEq, if_true, if_false, eq_self, Nat.add_zero, Nat.zero_add, lit, lit_nn, I_nat, I_add, I_mul, I_sub, I_div, inb_t, I_ne, I_nn, nn_I, nn_lt, nn_le, lt_nn, le_nn, I_t, I_f, I_lt_t, I_lt_f, isb_0, isb_1, vz_0, vz_1, nn_nat, d]
    · simp (disch := omega) only [fX6_frees, fX6_frees_J34, ck1, bd1, bx1, bx2, aS_at, iS_at, upd_at, ↓reduceIte, Nat.reduceEqDiff, Nat.reduceAdd, Nat.reduceMul, Nat.reduceSub, Nat.reduceDiv, Nat.reduceLT, Nat.reduceLeDiff, Nat.reduceBEq, ne_eq, not_true_eq_false, not_false_eq_true, reduceCtorEq, if_true, if_false, eq_self, Nat.add_zero, Nat.zero_add, lit, lit_nn, I_nat, I_add, I_mul, I_sub, I_div, inb_t, I_ne, I_nn, nn_I, nn_lt, nn_le, lt_nn, le_nn, I_t, I_f, I_lt_t, I_lt_f, isb_0, isb_1, vz_0, vz_1, nn_nat, d]
  · intro i hi
    have d := p8 i hi
    simp (disch := omega) only [ck1, bd1, bx1, bx2, aS_at, iS_at, upd_at, ↓reduceIte, Nat.reduceEqDiff, Nat.reduceAdd, Nat.reduceMul, Nat.reduceSub, Nat.reduceDiv, Nat.reduceLT, Nat.reduceLeDiff, Nat.reduceBEq, ne_eq, not_true_eq_false, not_false_eq_true, reduceCtorEq, if_true, if_false, eq_self, Nat.add_zero, Nat.zero_add, lit, lit_nn, I_nat, I_add, I_mul, I_sub, I_div, inb_t, I_ne, I_nn, nn_I, nn_lt, nn_le, lt_nn, le_nn, I_t, I_f, I_lt_t, I_lt_f, isb_0, isb_1, vz_0, vz_1, nn_nat]
    by_cases i1 : i = k
    · subst i1
      simp only [↓reduceIte]
      refine ⟨⟨0, by omega, rfl⟩, ?_, d.2.2.1, ⟨0, by omega, rfl⟩, fun _ => trivial, fun e => ⟨trivial, Or.inr ?_⟩, d.2.2.2.2.2.2.1, d.2.2.2.2.2.2.2.1, ?_⟩
      · by_cases z : mm 5 i = nn
        · rw [if_pos z]; exact ⟨0, by omega, rfl⟩
        · rw [if_neg z]; exact ⟨1, by omega, rfl⟩
      · intro z
        rw [if_pos z, I10] at e
        exact e
      · obtain ⟨q, h1, h2, h3⟩ := d.2.2.2.2.2.2.2.2
        exact ⟨q, h1, h2, fun w _ => h3 w o0⟩
    · simp only [i1, ↓reduceIte]
      exact d
  · intro i hi
    have d := c7 i hi
    simp (disch := omega) only [ck1, bd1, bx1, bx2, aS_at, iS_at, upd_at, ↓reduceIte, Nat.reduceEqDiff, Nat.reduceAdd, Nat.reduceMul, Nat.reduceSub, Nat.reduceDiv, Nat.reduceLT, Nat.reduceLeDiff, Nat.reduceBEq, ne_eq, not_true_eq_false, not_false_eq_true, reduceCtorEq, if_true, if_false, eq_self, Nat.add_zero, Nat.zero_add, lit, lit_nn, I_nat, I_add, I_mul, I_sub, I_div, inb_t, I_ne, I_nn, nn_I, nn_lt, nn_le, lt_nn, le_nn, I_t, I_f, I_lt_t, I_lt_f, isb_0, isb_1, vz_0, vz_1, nn_nat]
    by_cases i1 : i = k
    · subst i1
      simp only [↓reduceIte]
      refine ⟨trivial, d.2.1, fun _ => trivial, fun e => ?_, fun e => ?_, d.2.2.2.2.2.1, fun e => ?_, fun w _ => d.2.2.2.2.2.2.2 w o0⟩
      · rw [I10] at e; exact False.elim e
      · rw [I10] at e; exact False.elim e
      · by_cases z : mm 5 i = nn
        · rw [if_pos z, I10] at e; exact False.elim e
        · rcases p3.1 i hi with w | w
          · exact absurd w z
          · exact d.2.2.2.2.2.1 w.1
    · simp only [i1, ↓reduceIte]
      exact d
/-- the start of a shutting, on both sides, the tables apart -/
theorem begin_shut {N : Nat} {cs cw ct cl cb mm : St} (h : Rel N cs cw ct cl cb mm) {k : Nat} (hk : k < 30) (hs : mm 10 k = I 0) : Rel N cs cw (aS (aS (aS (aS ct 5 (I k) nn) 6 (I k) (I 0)) 7 (I k) (I 0)) 8 (I k) (I 0)) cl cb (aS (aS (aS (aS mm 10 (I k) (I 1)) 12 (I k) (I 0)) 13 (I k) (I 0)) 14 (I k) (I 0)) := by
  obtain ⟨p1, p2, p3, p4, p5, p6, p7, p8, p9, c1, c2, c3, c4, c5, c6, c7, c8, c9, c10⟩ := h
  refine ⟨p1, p2, p3, p4, p5, p6, p7, ?_, p9.shut _ _, c1, c2, c3, c4, c5, c6, ?_, c8, c9, c10⟩
  · intro i hi
    have d := p8 i hi
    simp (disch := omega) only [ck1, bd1, bx1, bx2, aS_at, iS_at, upd_at, ↓reduceIte, Nat.reduceEqDiff, Nat.reduceAdd, Nat.reduceMul, Nat.reduceSub, Nat.reduceDiv, Nat.reduceLT, Nat.reduceLeDiff, Nat.reduceBEq, ne_eq, not_true_eq_false, not_false_eq_true, reduceCtorEq, if_true, if_false, eq_self, Nat.add_zero, Nat.zero_add, lit, lit_nn, I_nat, I_add, I_mul, I_sub, I_div, inb_t, I_ne, I_nn, nn_I, nn_lt, nn_le, lt_nn, le_nn, I_t, I_f, I_lt_t, I_lt_f, isb_0, isb_1, vz_0, vz_1, nn_nat]
    by_cases i1 : i = k
    · subst i1
      simp only [↓reduceIte]
      refine ⟨⟨1, by omega, rfl⟩, ⟨0, by omega, rfl⟩, ⟨0, by omega, rfl⟩, d.2.2.2.1, fun e => ?_, fun e => ?_, fun _ => trivial, fun e => ?_, 0, by omega, rfl, fun _ _ => by omega⟩
      · exact False.elim (by rw [I01] at e; exact e)
      · exact False.elim (by rw [I10] at e; exact e)
      · exact False.elim (by rw [I10] at e; exact e)
    · simp only [i1, ↓reduceIte]
      exact d
  · intro i hi
    have d := c7 i hi
    simp (disch := omega) only [ck1, bd1, bx1, bx2, aS_at, iS_at, upd_at, ↓reduceIte, Nat.reduceEqDiff, Nat.reduceAdd, Nat.reduceMul, Nat.reduceSub, Nat.reduceDiv, Nat.reduceLT, Nat.reduceLeDiff, Nat.reduceBEq, ne_eq, not_true_eq_false, not_false_eq_true, reduceCtorEq, if_true, if_false, eq_self, Nat.add_zero, Nat.zero_add, lit, lit_nn, I_nat, I_add, I_mul, I_sub, I_div, inb_t, I_ne, I_nn, nn_I, nn_lt, nn_le, lt_nn, le_nn, I_t, I_f, I_lt_t, I_lt_f, isb_0, isb_1, vz_0, vz_1, nn_nat]
    by_cases i1 : i = k
    · subst i1
      simp only [↓reduceIte]
      refine ⟨trivial, trivial, fun e => ?_, fun _ _ => trivial, fun _ he => absurd ((p8 i hi).2.2.2.2.1 hs) he, fun _ => trivial, fun _ => trivial, fun _ _ => trivial⟩
      exact False.elim (by rw [I01] at e; exact e)
    · simp only [i1, ↓reduceIte]
      exact d
theorem sim_shut {N : Nat} {cs cw ct cl cb mm : St} (h : Rel N cs cw ct cl cb mm) (x1 x2 : Int32) :
    (∃ r m', fX5_shut cw ct cb x1 x2 = some (.inr 1) ∧ fX6_shut mm x1 x2 = some (r, m') ∧ m' 40 0 = I 1 ∧ Rel N cs cw ct cl cb m') ∨
    (∃ r ct' cb' m', (r = I 0 ∨ r = I 1) ∧ fX5_shut cw ct cb x1 x2 = some (.inl (r, ct', cb')) ∧ fX6_shut mm x1 x2 = some (r, m') ∧ m' 40 0 = I 0 ∧ Rel N cs cw ct' cl cb' m') := by
  rcases port_cases x1 x2 with ⟨a, b, ha, hb, rfl, rfl⟩ | ⟨hc, hm⟩
  · obtain ⟨k, ek⟩ : ∃ k, k = 5 * a + b := ⟨_, rfl⟩
    have hk : k < 30 := by omega
    have e1 : a * 5 + b = k := by omega
    have e2 : 5 * a + b = k := by omega
    have h0 := h.thrown (I 0)
    rcases shut_eq h.2.2.2.2.2.1.1 h.2.2.2.2.2.2.2.1 h.2.2.2.2.2.2.2.2.2.2.2.2.2.2.2.1 hk with ⟨s1, s2⟩ | ⟨s1, s2⟩
    · have hr := begin_shut h0 hk s1
      obtain ⟨c', m', g1, g2, g3, g4⟩ := forget_both hr.2.2.2.2.2.2.2.2.2.2.2.2.2.2.2.2.2.2 hk
      have e10 : m' 10 k = I 1 := by
        rw [g3 10 (by omega)]
        simp (disch := omega) only [ck1, bd1, bx1, bx2, aS_at, iS_at, upd_at, ↓reduceIte, Nat.reduceEqDiff, Nat.reduceAdd, Nat.reduceMul, Nat.reduceSub, Nat.reduceDiv, Nat.reduceLT, Nat.reduceLeDiff, Nat.reduceBEq, ne_eq, not_true_eq_false, not_false_eq_true, reduceCtorEq, if_true, if_false, eq_self, Nat.add_zero, Nat.zero_add, lit, lit_nn, I_nat, I_add, I_mul, I_sub, I_div, inb_t, I_ne, I_nn, nn_I, nn_lt, nn_le, lt_nn, le_nn, I_t, I_f, I_lt_t, I_lt_f, isb_0, isb_1, vz_0, vz_1, nn_nat]
      refine Or.inr ⟨I 1, _, c', m', Or.inr rfl, ?_, ?_, ?_, hr.tab g3 g4⟩
      · simp (disch := omega) only [fX5_shut, fX5_spotOf, fX5_shutUntil, fX3_beginShut, needPort_t ha hb, isShut_t ct hk s2, close_eq _ hk, ck1, bd1, bx1, bx2, aS_at, iS_at, upd_at, ↓reduceIte, Nat.reduceEqDiff, Nat.reduceAdd, Nat.reduceMul, Nat.reduceSub, Nat.reduceDiv, Nat.reduceLT, Nat.reduceLeDiff, Nat.reduceBEq, ne_eq, not_true_eq_false, not_false_eq_true, reduceCtorEq, if_true, if_false, eq_self, Nat.add_zero, Nat.zero_add, lit, lit_nn, I_nat, I_add, I_mul, I_sub, I_div, inb_t, I_ne, I_nn, nn_I, nn_lt, nn_le, lt_nn, le_nn, I_t, I_f, I_lt_t, I_lt_f, isb_0, isb_1, vz_0, vz_1, nn_nat, e1, g1]
      · simp (disch := omega) only [fX6_shut, fX6_shut_J14, fX6_shuts, isPort_t ha hb, begins_eq _ hk, fails_0, ck1, bd1, bx1, bx2, aS_at, iS_at, upd_at, ↓reduceIte, Nat.reduceEqDiff, Nat.reduceAdd, Nat.reduceMul, Nat.reduceSub, Nat.reduceDiv, Nat.reduceLT, Nat.reduceLeDiff, Nat.reduceBEq, ne_eq, not_true_eq_false, not_false_eq_true, reduceCtorEq, if_true, if_false, eq_self, Nat.add_zero, Nat.zero_add, lit, lit_nn, I_nat, I_add, I_mul, I_sub, I_div, inb_t, I_ne, I_nn, nn_I, nn_lt, nn_le, lt_nn, le_nn, I_t, I_f, I_lt_t, I_lt_f, isb_0, isb_1, vz_0, vz_1, nn_nat, e2, s1, g2, e10]
      · rw [g3 40 (by omega)]
        simp (disch := omega) only [ck1, bd1, bx1, bx2, aS_at, iS_at, upd_at, ↓reduceIte, Nat.reduceEqDiff, Nat.reduceAdd, Nat.reduceMul, Nat.reduceSub, Nat.reduceDiv, Nat.reduceLT, Nat.reduceLeDiff, Nat.reduceBEq, ne_eq, not_true_eq_false, not_false_eq_true, reduceCtorEq, if_true, if_false, eq_self, Nat.add_zero, Nat.zero_add, lit, lit_nn, I_nat, I_add, I_mul, I_sub, I_div, inb_t, I_ne, I_nn, nn_I, nn_lt, nn_le, lt_nn, le_nn, I_t, I_f, I_lt_t, I_lt_f, isb_0, isb_1, vz_0, vz_1, nn_nat]
    · obtain ⟨v, g1, g2, g3⟩ := end_shut h0 hk s1
      refine Or.inr ⟨I 0, _, cb, _, Or.inl rfl, ?_, ?_, ?_, g3⟩
      · simp (disch := omega) only [fX5_shut, fX5_spotOf, needPort_t ha hb, isShut_f ct hk s2, ck1, bd1, bx1, bx2, aS_at, iS_at, upd_at, ↓reduceIte, Nat.reduceEqDiff, Nat.reduceAdd, Nat.reduceMul, Nat.reduceSub, Nat.reduceDiv, Nat.reduceLT, Nat.reduceLeDiff, Nat.reduceBEq, ne_eq, not_true_eq_false, not_false_eq_true, reduceCtorEq, if_true, if_false, eq_self, Nat.add_zero, Nat.zero_add, lit, lit_nn, I_nat, I_add, I_mul, I_sub, I_div, inb_t, I_ne, I_nn, nn_I, nn_lt, nn_le, lt_nn, le_nn, I_t, I_f, I_lt_t, I_lt_f, isb_0, isb_1, vz_0, vz_1, nn_nat, e1, g1, I01]
      · have s3 : ¬ mm 10 k = I 0 := by rw [s1, I01]; exact fun h => h
        simp (disch := omega) only [fX6_shut, fX6_shut_J14, isPort_t ha hb, fails_0, ck1, bd1, bx1, bx2, aS_at, iS_at, upd_at, ↓reduceIte, Nat.reduceEqDiff, Nat.reduceAdd, Nat.reduceMul, Nat.reduceSub, Nat.reduceDiv, Nat.reduceLT, Nat.reduceLeDiff, Nat.reduceBEq, ne_eq, not_true_eq_false, not_false_eq_true, reduceCtorEq, if_true, if_false, eq_self, Nat.add_zero, Nat.zero_add, lit, lit_nn, I_nat, I_add, I_mul, I_sub, I_div, inb_t, I_ne, I_nn, nn_I, nn_lt, nn_le, lt_nn, le_nn, I_t, I_f, I_lt_t, I_lt_f, isb_0, isb_1, vz_0, vz_1, nn_nat, e2, s3, g2]
      · simp (disch := omega) only [ck1, bd1, bx1, bx2, aS_at, iS_at, upd_at, ↓reduceIte, Nat.reduceEqDiff, Nat.reduceAdd, Nat.reduceMul, Nat.reduceSub, Nat.reduceDiv, Nat.reduceLT, Nat.reduceLeDiff, Nat.reduceBEq, ne_eq, not_true_eq_false, not_false_eq_true, reduceCtorEq, if_true, if_false, eq_self, Nat.add_zero, Nat.zero_add, lit, lit_nn, I_nat, I_add, I_mul, I_sub, I_div, inb_t, I_ne, I_nn, nn_I, nn_lt, nn_le, lt_nn, le_nn, I_t, I_f, I_lt_t, I_lt_f, isb_0, isb_1, vz_0, vz_1, nn_nat]
  · refine Or.inl ⟨I 0, iS mm 40 (I 1), ?_, ?_, rfl, h.thrown _⟩
    · simp (disch := omega) only [fX5_shut, hc, ck1, bd1, bx1, bx2, aS_at, iS_at, upd_at, ↓reduceIte, Nat.reduceEqDiff, Nat.reduceAdd, Nat.reduceMul, Nat.reduceSub, Nat.reduceDiv, Nat.reduceLT, Nat.reduceLeDiff, Nat.reduceBEq, ne_eq, not_true_eq_false, not_false_eq_true, reduceCtorEq, if_true, if_false, eq_self, Nat.add_zero, Nat.zero_add, lit, lit_nn, I_nat, I_add, I_mul, I_sub, I_div, inb_t, I_ne, I_nn, nn_I, nn_lt, nn_le, lt_nn, le_nn, I_t, I_f, I_lt_t, I_lt_f, isb_0, isb_1, vz_0, vz_1, nn_nat]
    · simp (disch := omega) only [fX6_shut, fX6_shut_J14, hm, fails_k, ck1, bd1, bx1, bx2, aS_at, iS_at, upd_at, ↓reduceIte, Nat.reduceEqDiff, Nat.reduceAdd, Nat.reduceMul, Nat.reduceSub, Nat.reduceDiv, Nat.reduceLT, Nat.reduceLeDiff, Nat.reduceBEq, ne_eq, not_true_eq_false, not_false_eq_true, reduceCtorEq, if_true, if_false, eq_self, Nat.add_zero, Nat.zero_add, lit, lit_nn, I_nat, I_add, I_mul, I_sub, I_div, inb_t, I_ne, I_nn, nn_I, nn_lt, nn_le, lt_nn, le_nn, I_t, I_f, I_lt_t, I_lt_f, isb_0, isb_1, vz_0, vz_1, nn_nat]

theorem free_house {N : Nat} {cs cw ct cl cb mm : St} (h : Rel N cs cw ct cl cb mm) {k g n : Nat} (hk : k < 30) (hg : g < 10) (e : mm 5 k = I g) (en : n + 1 = cnt (mm 5) 30) : Rel N cs (iS (aS (aS cw 2 (I k) nn) 4 (I g) nn) 7 (I n)) (aS (aS (aS ct 6 (I k) (I 0)) 7 (I k) (I 0)) 8 (I k) (I 0)) cl cb (aS (aS (aS (aS (aS mm 5 (I k) nn) 3 (I k) nn) 12 (I k) (I 0)) 13 (I k) (I 0)) 14 (I k) (I 0)) := by
  obtain ⟨p1, p2, p3, p4, p5, p6, p7, p8, p9, c1, c2, c3, c4, c5, c6, c7, c8, c9, c10⟩ := h
  have w0 : mm 3 k = nn := by
    rcases p3.1 k hk with w | w
    · rw [e, I_nn (by omega)] at w; exact False.elim w
    · exact w.1
  have w1 : upd (mm 3) k nn = mm 3 := by
    funext i
    rw [upd_at]
    by_cases d : i = k
    · rw [if_pos d, d, w0]
    · rw [if_neg d]
  have w2 : (aS (aS (aS (aS (aS mm 5 (I k) nn) 3 (I k) nn) 12 (I k) (I 0)) 13 (I k) (I 0)) 14 (I k) (I 0)) 3 = mm 3 := by
    simp (disch := omega) only [ck1, bd1, bx1, bx2, aS_at, iS_at, upd_at, ↓reduceIte, Nat.reduceEqDiff, Nat.reduceAdd, Nat.reduceMul, Nat.reduceSub, Nat.reduceDiv, Nat.reduceLT, Nat.reduceLeDiff, Nat.reduceBEq, ne_eq, not_true_eq_false, not_false_eq_true, reduceCtorEq, if_true, if_false, eq_self, Nat.add_zero, Nat.zero_add, lit, lit_nn, I_nat, I_add, I_mul, I_sub, I_div, inb_t, I_ne, I_nn, nn_I, nn_lt, nn_le, lt_nn, le_nn, I_t, I_f, I_lt_t, I_lt_f, isb_0, isb_1, vz_0, vz_1, nn_nat, w1]
  have w3 : (aS (aS (aS (aS (aS mm 5 (I k) nn) 3 (I k) nn) 12 (I k) (I 0)) 13 (I k) (I 0)) 14 (I k) (I 0)) 5 = upd (mm 5) k nn := by
    simp (disch := omega) only [ck1, bd1, bx1, bx2, aS_at, iS_at, upd_at, ↓reduceIte, Nat.reduceEqDiff, Nat.reduceAdd, Nat.reduceMul, Nat.reduceSub, Nat.reduceDiv, Nat.reduceLT, Nat.reduceLeDiff, Nat.reduceBEq, ne_eq, not_true_eq_false, not_false_eq_true, reduceCtorEq, if_true, if_false, eq_self, Nat.add_zero, Nat.zero_add, lit, lit_nn, I_nat, I_add, I_mul, I_sub, I_div, inb_t, I_ne, I_nn, nn_I, nn_lt, nn_le, lt_nn, le_nn, I_t, I_f, I_lt_t, I_lt_f, isb_0, isb_1, vz_0, vz_1, nn_nat]
  refine ⟨p1, ?_, ?_, p4, p5, p6, p7, ?_, p9.put _, c1, ?_, ?_, ?_, c5, c6, ?_, c8, c9, c10⟩
  · rw [w2]; exact p2
  · rw [w2, w3]
    refine ⟨fun i hi => ?_, fun i j hi hj => ?_⟩
    · rw [upd_at]
      by_cases d : i = k
      · rw [if_pos d]; exact Or.inl rfl
      · rw [if_neg d]; exact p3.1 i hi
    · rw [upd_at, upd_at]
      by_cases d : i = k
      · rw [if_pos d]
        intro _ z
        exact absurd rfl z
      · rw [if_neg d]
        by_cases d2 : j = k
        · rw [if_pos d2]
          intro z z2; exact absurd z z2
        · rw [if_neg d2]; exact p3.2 i j hi hj
  · rw [w2, w3]
    intro i hi
    have d := p8 i hi
    simp (disch := omega) only [ck1, bd1, bx1, bx2, aS_at, iS_at, upd_at, ↓reduceIte, Nat.reduceEqDiff, Nat.reduceAdd, Nat.reduceMul, Nat.reduceSub, Nat.reduceDiv, Nat.reduceLT, Nat.reduceLeDiff, Nat.reduceBEq, ne_eq, not_true_eq_false, not_false_eq_true, reduceCtorEq, if_true, if_false, eq_self, Nat.add_zero, Nat.zero_add, lit, lit_nn, I_nat, I_add, I_mul, I_sub, I_div, inb_t, I_ne, I_nn, nn_I, nn_lt, nn_le, lt_nn, le_nn, I_t, I_f, I_lt_t, I_lt_f, isb_0, isb_1, vz_0, vz_1, nn_nat]
    by_cases i1 : i = k
    · subst i1
      simp only [↓reduceIte]
      exact ⟨d.1, ⟨0, by omega, rfl⟩, ⟨0, by omega, rfl⟩, d.2.2.2.1, d.2.2.2.2.1, fun e => False.elim (by rw [I10] at e; exact e), fun _ => trivial, fun e => False.elim (by rw [I10] at e; exact e), 0, by omega, rfl, fun _ _ => by omega⟩
    · simp only [i1, ↓reduceIte]
      exact d
  · rw [w2, w3]
    intro i hi
    obtain ⟨d1, d2, d3, d4⟩ := c2 i hi
    simp (disch := omega) only [ck1, bd1, bx1, bx2, aS_at, iS_at, upd_at, ↓reduceIte, Nat.reduceEqDiff, Nat.reduceAdd, Nat.reduceMul, Nat.reduceSub, Nat.reduceDiv, Nat.reduceLT, Nat.reduceLeDiff, Nat.reduceBEq, ne_eq, not_true_eq_false, not_false_eq_true, reduceCtorEq, if_true, if_false, eq_self, Nat.add_zero, Nat.zero_add, lit, lit_nn, I_nat, I_add, I_mul, I_sub, I_div, inb_t, I_ne, I_nn, nn_I, nn_lt, nn_le, lt_nn, le_nn, I_t, I_f, I_lt_t, I_lt_f, isb_0, isb_1, vz_0, vz_1, nn_nat]
    by_cases i1 : i = k
    · subst i1
      simp only [↓reduceIte]
      exact ⟨d1, d2, trivial, d4⟩
    · simp only [i1, ↓reduceIte]
      exact ⟨d1, d2, d3, d4⟩
  · rw [w3]
    intro g' hg'
    simp (disch := omega) only [ck1, bd1, bx1, bx2, aS_at, iS_at, upd_at, ↓reduceIte, Nat.reduceEqDiff, Nat.reduceAdd, Nat.reduceMul, Nat.reduceSub, Nat.reduceDiv, Nat.reduceLT, Nat.reduceLeDiff, Nat.reduceBEq, ne_eq, not_true_eq_false, not_false_eq_true, reduceCtorEq, if_true, if_false, eq_self, Nat.add_zero, Nat.zero_add, lit, lit_nn, I_nat, I_add, I_mul, I_sub, I_div, inb_t, I_ne, I_nn, nn_I, nn_lt, nn_le, lt_nn, le_nn, I_t, I_f, I_lt_t, I_lt_f, isb_0, isb_1, vz_0, vz_1, nn_nat]
    by_cases g1 : g' = g
    · subst g1
      simp only [↓reduceIte]
      refine Or.inl ⟨trivial, fun i hi => ?_⟩
      by_cases i1 : i = k
      · rw [if_pos i1, nn_I (by omega)]; exact fun h => h
      · rw [if_neg i1]
        intro z
        exact i1 (p3.2 i k hi hk (z.trans e.symm) (by rw [z, ne_eq, I_nn (by omega)]; exact fun h => h))
    · simp only [g1, ↓reduceIte]
      rcases c3 g' hg' with ⟨d1, d2⟩ | ⟨i, hi, d1, d2⟩
      · refine Or.inl ⟨d1, fun i hi => ?_⟩
        by_cases i1 : i = k
        · rw [if_pos i1, nn_I (by omega)]; exact fun h => h
        · rw [if_neg i1]; exact d2 i hi
      · refine Or.inr ⟨i, hi, d1, ?_⟩
        have i1 : i ≠ k := fun z => by
          rw [z, e, I_inj (by omega) (by omega)] at d2
          exact g1 d2.symm
        rw [if_neg i1]; exact d2
  · rw [w2, w3]
    refine ⟨c4.1, ?_⟩
    have q := cnt_upd (mm 5) k nn 30 hk
    have z : mm 5 k ≠ nn := by rw [e, ne_eq, I_nn (by omega)]; exact fun h => h
    rw [if_neg z, if_pos rfl] at q
    show I n = _
    congr 1
    omega
  · rw [w2]
    intro i hi
    have d := c7 i hi
    simp (disch := omega) only [ck1, bd1, bx1, bx2, aS_at, iS_at, upd_at, ↓reduceIte, Nat.reduceEqDiff, Nat.reduceAdd, Nat.reduceMul, Nat.reduceSub, Nat.reduceDiv, Nat.reduceLT, Nat.reduceLeDiff, Nat.reduceBEq, ne_eq, not_true_eq_false, not_false_eq_true, reduceCtorEq, if_true, if_false, eq_self, Nat.add_zero, Nat.zero_add, lit, lit_nn, I_nat, I_add, I_mul, I_sub, I_div, inb_t, I_ne, I_nn, nn_I, nn_lt, nn_le, lt_nn, le_nn, I_t, I_f, I_lt_t, I_lt_f, isb_0, isb_1, vz_0, vz_1, nn_nat]
    by_cases i1 : i = k
    · subst i1
      simp only [↓reduceIte]
      exact ⟨trivial, trivial, d.2.2.1, d.2.2.2.1, d.2.2.2.2.1, fun _ => trivial, fun _ => trivial, fun _ _ => trivial⟩
    · simp only [i1, ↓reduceIte]
      exact d
theorem free_wire {N : Nat} {cs cw ct cl cb mm : St} (h : Rel N cs cw ct cl cb mm) {k j n : Nat} (hk : k < 30) (hj : j < 30) (e : mm 3 k = I j) (e2 : mm 3 j = I k) (hjk : j ≠ k) (en : 2 * (n + 1) = cnt (mm 3) 30) : Rel N cs (iS (aS (aS cw 0 (I k) nn) 0 (I j) nn) 6 (I n)) (aS (aS (aS (aS (aS (aS ct 6 (I k) (I 0)) 7 (I k) (I 0)) 8 (I k) (I 0)) 6 (I j) (I 0)) 7 (I j) (I 0)) 8 (I j) (I 0)) cl cb (aS (aS (aS (aS (aS (aS (aS (aS (aS mm 5 (I k) nn) 3 (I k) nn) 12 (I k) (I 0)) 13 (I k) (I 0)) 14 (I k) (I 0)) 3 (I j) nn) 12 (I j) (I 0)) 13 (I j) (I 0)) 14 (I j) (I 0)) := by
  obtain ⟨p1, p2, p3, p4, p5, p6, p7, p8, p9, c1, c2, c3, c4, c5, c6, c7, c8, c9, c10⟩ := h
  have h0 : mm 5 k = nn := by
    rcases p3.1 k hk with w | w
    · exact w
    · have w' := w.1
      rw [e, I_nn (by omega)] at w'; exact False.elim w'
  have h1 : mm 5 j = nn := by
    rcases p3.1 j hj with w | w
    · exact w
    · have w' := w.1
      rw [e2, I_nn (by omega)] at w'; exact False.elim w'
  have w1 : upd (mm 5) k nn = mm 5 := by
    funext i
    rw [upd_at]
    by_cases d : i = k
    · rw [if_pos d, d, h0]
    · rw [if_neg d]
  have w5 : (aS (aS (aS (aS (aS (aS (aS (aS (aS mm 5 (I k) nn) 3 (I k) nn) 12 (I k) (I 0)) 13 (I k) (I 0)) 14 (I k) (I 0)) 3 (I j) nn) 12 (I j) (I 0)) 13 (I j) (I 0)) 14 (I j) (I 0)) 5 = mm 5 := by
    simp (disch := omega) only [ck1, bd1, bx1, bx2, aS_at, iS_at, upd_at, ↓reduceIte, Nat.reduceEqDiff, Nat.reduceAdd, Nat.reduceMul, Nat.reduceSub, Nat.reduceDiv, Nat.reduceLT, Nat.reduceLeDiff, Nat.reduceBEq, ne_eq, not_true_eq_false, not_false_eq_true, reduceCtorEq, if_true, if_false, eq_self, Nat.add_zero, Nat.zero_add, lit, lit_nn, I_nat, I_add, I_mul, I_sub, I_div, inb_t, I_ne, I_nn, nn_I, nn_lt, nn_le, lt_nn, le_nn, I_t, I_f, I_lt_t, I_lt_f, isb_0, isb_1, vz_0, vz_1, nn_nat, w1]
  have w3 : (aS (aS (aS (aS (aS (aS (aS (aS (aS mm 5 (I k) nn) 3 (I k) nn) 12 (I k) (I 0)) 13 (I k) (I 0)) 14 (I k) (I 0)) 3 (I j) nn) 12 (I j) (I 0)) 13 (I j) (I 0)) 14 (I j) (I 0)) 3 = upd (upd (mm 3) k nn) j nn := by
    simp (disch := omega) only [ck1, bd1, bx1, bx2, aS_at, iS_at, upd_at, ↓reduceIte, Nat.reduceEqDiff, Nat.reduceAdd, Nat.reduceMul, Nat.reduceSub, Nat.reduceDiv, Nat.reduceLT, Nat.reduceLeDiff, Nat.reduceBEq, ne_eq, not_true_eq_false, not_false_eq_true, reduceCtorEq, if_true, if_false, eq_self, Nat.add_zero, Nat.zero_add, lit, lit_nn, I_nat, I_add, I_mul, I_sub, I_div, inb_t, I_ne, I_nn, nn_I, nn_lt, nn_le, lt_nn, le_nn, I_t, I_f, I_lt_t, I_lt_f, isb_0, isb_1, vz_0, vz_1, nn_nat]
  have p2' : ∀ i, i < 30 → i ≠ k → i ≠ j → ∀ i', i' < 30 → mm 3 i = I i' → mm 3 i' = I i → i' ≠ k ∧ i' ≠ j := by
    intro i hi ik ij i' hi' q1 q2
    refine ⟨fun z => ?_, fun z => ?_⟩
    · rw [z, e, I_inj (by omega) (by omega)] at q2; exact ij q2.symm
    · rw [z, e2, I_inj (by omega) (by omega)] at q2; exact ik q2.symm
  refine ⟨p1, ?_, ?_, p4, p5, p6, p7, ?_, (p9.put _).put _, c1, ?_, ?_, ?_, c5, c6, ?_, c8, c9, c10⟩
  · rw [w3]
    intro i hi
    simp only [upd_at]
    by_cases d1 : i = j
    · rw [if_pos d1]; exact Or.inl rfl
    · by_cases d2 : i = k
      · rw [if_neg d1, if_pos d2]; exact Or.inl rfl
      · rw [if_neg d1, if_neg d2]
        rcases p2 i hi with w | ⟨i', c, a1, a2, a3, a4, a5, a6, a7, a8⟩
        · exact Or.inl w
        · obtain ⟨z1, z2⟩ := p2' i hi d2 d1 i' a1 a2 a3
          refine Or.inr ⟨i', c, a1, a2, ?_, a4, a5, a6, a7, a8⟩
          rw [if_neg z2, if_neg z1]; exact a3
  · rw [w3, w5]
    refine ⟨fun i hi => ?_, p3.2⟩
    rcases p3.1 i hi with w | w
    · exact Or.inl w
    · refine Or.inr ⟨?_, w.2⟩
      simp only [upd_at]
      by_cases d1 : i = j
      · rw [if_pos d1]
      · by_cases d2 : i = k
        · rw [if_neg d1, if_pos d2]
        · rw [if_neg d1, if_neg d2]; exact w.1
  · rw [w3, w5]
    intro i hi
    have d := p8 i hi
    simp (disch := omega) only [ck1, bd1, bx1, bx2, aS_at, iS_at, upd_at, ↓reduceIte, Nat.reduceEqDiff, Nat.reduceAdd, Nat.reduceMul, Nat.reduceSub, Nat.reduceDiv, Nat.reduceLT, Nat.reduceLeDiff, Nat.reduceBEq, ne_eq, not_true_eq_false, not_false_eq_true, reduceCtorEq, if_true, if_false, eq_self, Nat.add_zero, Nat.zero_add, lit, lit_nn, I_nat, I_add, I_mul, I_sub, I_div, inb_t, I_ne, I_nn, nn_I, nn_lt, nn_le, lt_nn, le_nn, I_t, I_f, I_lt_t, I_lt_f, isb_0, isb_1, vz_0, vz_1, nn_nat]
    by_cases i1 : i = k
    · subst i1
      simp only [↓reduceIte, ite_self]
      exact ⟨d.1, ⟨0, by omega, rfl⟩, ⟨0, by omega, rfl⟩, d.2.2.2.1, d.2.2.2.2.1, fun e => False.elim (by rw [I10] at e; exact e), fun _ => trivial, fun e => False.elim (by rw [I10] at e; exact e), 0, by omega, rfl, fun _ _ => by omega⟩
    · by_cases i2 : i = j
      · subst i2
        simp only [↓reduceIte, ite_self]
        exact ⟨d.1, ⟨0, by omega, rfl⟩, ⟨0, by omega, rfl⟩, d.2.2.2.1, d.2.2.2.2.1, fun e => False.elim (by rw [I10] at e; exact e), fun _ => trivial, fun e => False.elim (by rw [I10] at e; exact e), 0, by omega, rfl, fun _ _ => by omega⟩
      · simp only [i1, i2, ↓reduceIte]
        exact d
  · rw [w3, w5]
    intro i hi
    obtain ⟨d1, d2, d3, d4⟩ := c2 i hi
    simp (disch := omega) only [ck1, bd1, bx1, bx2, aS_at, iS_at, upd_at, ↓reduceIte, Nat.reduceEqDiff, Nat.reduceAdd, Nat.reduceMul, Nat.reduceSub, Nat.reduceDiv, Nat.reduceLT, Nat.reduceLeDiff, Nat.reduceBEq, ne_eq, not_true_eq_false, not_false_eq_true, reduceCtorEq, if_true, if_false, eq_self, Nat.add_zero, Nat.zero_add, lit, lit_nn, I_nat, I_add, I_mul, I_sub, I_div, inb_t, I_ne, I_nn, nn_I, nn_lt, nn_le, lt_nn, le_nn, I_t, I_f, I_lt_t, I_lt_f, isb_0, isb_1, vz_0, vz_1, nn_nat]
    refine ⟨?_, d2, d3, d4⟩
    rw [d1]
  · rw [w5]; exact c3
  · rw [w3, w5]
    refine ⟨⟨n, rfl, ?_⟩, c4.2⟩
    have q := cnt_upd (mm 3) k nn 30 hk
    have q2 := cnt_upd (upd (mm 3) k nn) j nn 30 hj
    have z : mm 3 k ≠ nn := by rw [e, ne_eq, I_nn (by omega)]; exact fun h => h
    have z2 : upd (mm 3) k nn j ≠ nn := by rw [upd_at, if_neg hjk, e2, ne_eq, I_nn (by omega)]; exact fun h => h
    rw [if_neg z, if_pos rfl] at q
    rw [if_neg z2, if_pos rfl] at q2
    omega
  · rw [w3]
    intro i hi
    have d := c7 i hi
    simp (disch := omega) only [ck1, bd1, bx1, bx2, aS_at, iS_at, upd_at, ↓reduceIte, Nat.reduceEqDiff, Nat.reduceAdd, Nat.reduceMul, Nat.reduceSub, Nat.reduceDiv, Nat.reduceLT, Nat.reduceLeDiff, Nat.reduceBEq, ne_eq, not_true_eq_false, not_false_eq_true, reduceCtorEq, if_true, if_false, eq_self, Nat.add_zero, Nat.zero_add, lit, lit_nn, I_nat, I_add, I_mul, I_sub, I_div, inb_t, I_ne, I_nn, nn_I, nn_lt, nn_le, lt_nn, le_nn, I_t, I_f, I_lt_t, I_lt_f, isb_0, isb_1, vz_0, vz_1, nn_nat]
    by_cases i1 : i = k
    · subst i1
      simp only [↓reduceIte, ite_self]
      exact ⟨trivial, trivial, d.2.2.1, d.2.2.2.1, d.2.2.2.2.1, fun _ => trivial, fun _ => trivial, fun _ _ => trivial⟩
    · by_cases i2 : i = j
      · subst i2
        simp only [↓reduceIte, ite_self]
        exact ⟨trivial, trivial, d.2.2.1, d.2.2.2.1, d.2.2.2.2.1, fun _ => trivial, fun _ => trivial, fun _ _ => trivial⟩
      · simp only [i1, i2, ↓reduceIte]
        exact d
theorem Fm.refl (a : St) : Fm a a := fun _ _ => rfl
theorem Fm.trans {a b c : St} (h : Fm a b) (k : Fm b c) : Fm a c := fun q hq => (h q hq).trans (k q hq)
theorem dropUse_eq {ct cb c' : St} {k : Nat} (hk : k < 30) (h : fX2_forgetPort cb (I k) = some c') : fX5_dropUse ct cb (I k) = some (aS (aS (aS ct 6 (I k) (I 0)) 7 (I k) (I 0)) 8 (I k) (I 0), c') := by
  simp (disch := omega) only [fX5_dropUse, close_eq _ hk, h, ck1, bd1, bx1, bx2, aS_at, iS_at, upd_at, ↓reduceIte, Nat.reduceEqDiff, Nat.reduceAdd, Nat.reduceMul, Nat.reduceSub, Nat.reduceDiv, Nat.reduceLT, Nat.reduceLeDiff, Nat.reduceBEq, ne_eq, not_true_eq_false, not_false_eq_true, reduceCtorEq, if_true, if_false, eq_self, Nat.add_zero, Nat.zero_add, lit, lit_nn, I_nat, I_add, I_mul, I_sub, I_div, inb_t, I_ne, I_nn, nn_I, nn_lt, nn_le, lt_nn, le_nn, I_t, I_f, I_lt_t, I_lt_f, isb_0, isb_1, vz_0, vz_1, nn_nat]
theorem sim_free {N : Nat} {cs cw ct cl cb mm : St} (h : Rel N cs cw ct cl cb mm) (x1 x2 : Int32) :
    (∃ k r m', ((k = 1 ∧ m' 40 0 = I 1) ∨ (k = 3 ∧ m' 40 0 = I 2)) ∧ fX5_free cw ct cb x1 x2 = some (.inr k) ∧ fX6_free mm x1 x2 = some (r, m') ∧ Rel N cs cw ct cl cb m') ∨
    (∃ r cw' ct' cb' m', fX5_free cw ct cb x1 x2 = some (.inl (r, cw', ct', cb')) ∧ fX6_free mm x1 x2 = some (r, m') ∧ m' 40 0 = I 0 ∧ Rel N cs cw' ct' cl cb' m') := by
  rcases port_cases x1 x2 with ⟨a, b, ha, hb, rfl, rfl⟩ | ⟨hc, hm⟩
  · obtain ⟨k, ek⟩ : ∃ k, k = 5 * a + b := ⟨_, rfl⟩
    have hk : k < 30 := by omega
    have e1 : a * 5 + b = k := by omega
    have e2 : 5 * a + b = k := by omega
    have h0 := h.thrown (I 0)
    have hw := h.2.2.2.2.2.2.2.2.2.2.1
    have ht := h.2.2.2.2.2.2.2.2.2.2.2.2.2.2.2.2.2.2
    have hcn := h.2.2.2.2.2.2.2.2.2.2.2.2.1
    rcases used_cases mm hk with ⟨u1, u2, uu⟩ | ⟨u1, uu⟩
    · have hbare := bare_t cw hk ((hw k hk).1.trans u1) ((hw k hk).2.2.1.trans u2)
      refine Or.inl ⟨3, I 0, iS mm 40 (I 2), Or.inr ⟨rfl, rfl⟩, ?_, ?_, h.thrown _⟩
      · simp (disch := omega) only [fX5_free, fX5_spotOf, needPort_t ha hb, ck1, bd1, bx1, bx2, aS_at, iS_at, upd_at, ↓reduceIte, Nat.reduceEqDiff, Nat.reduceAdd, Nat.reduceMul, Nat.reduceSub, Nat.reduceDiv, Nat.reduceLT, Nat.reduceLeDiff, Nat.reduceBEq, ne_eq, not_true_eq_false, not_false_eq_true, reduceCtorEq, if_true, if_false, eq_self, Nat.add_zero, Nat.zero_add, lit, lit_nn, I_nat, I_add, I_mul, I_sub, I_div, inb_t, I_ne, I_nn, nn_I, nn_lt, nn_le, lt_nn, le_nn, I_t, I_f, I_lt_t, I_lt_f, isb_0, isb_1, vz_0, vz_1, nn_nat, e1, hbare, I01]
      · simp (disch := omega) only [fX6_free, fX6_free_J36, isPort_t ha hb, fails_k, ck1, bd1, bx1, bx2, aS_at, iS_at, upd_at, ↓reduceIte, Nat.reduceEqDiff, Nat.reduceAdd, Nat.reduceMul, Nat.reduceSub, Nat.reduceDiv, Nat.reduceLT, Nat.reduceLeDiff, Nat.reduceBEq, ne_eq, not_true_eq_false, not_false_eq_true, reduceCtorEq, if_true, if_false, eq_self, Nat.add_zero, Nat.zero_add, lit, lit_nn, I_nat, I_add, I_mul, I_sub, I_div, inb_t, I_ne, I_nn, nn_I, nn_lt, nn_le, lt_nn, le_nn, I_t, I_f, I_lt_t, I_lt_f, isb_0, isb_1, vz_0, vz_1, nn_nat, e2, uu, I01]
    · have hbare := bare_f cw hk (by rw [(hw k hk).1, (hw k hk).2.2.1]; exact u1)
      rcases h.2.1 k hk with w | ⟨j, c, hj, a2, a3, a4, -⟩
      · have z5 : mm 5 k ≠ nn := u1.resolve_left (fun z => z w)
        rcases h.2.2.1.1 k hk with z | ⟨-, g, hg, eg⟩
        · exact absurd z z5
        · have q := cnt_upd (mm 5) k nn 30 hk
          rw [if_neg z5, if_pos rfl] at q
          obtain ⟨n, en⟩ : ∃ n, n = cnt (upd (mm 5) k nn) 30 := ⟨_, rfl⟩
          rw [← en] at q
          have hr := free_house h0 hk hg eg (n := n) (by show _ = cnt (mm 5) 30; omega)
          obtain ⟨c', m', g1, g2, g3, g4⟩ := forget_both hr.2.2.2.2.2.2.2.2.2.2.2.2.2.2.2.2.2.2 hk
          have ecn : cw 7 0 = I (n + 1) := by rw [hcn.2]; congr 1; omega
          have w2 : cw 2 k = I g := (hw k hk).2.2.1.trans eg
          have w0 : cw 0 k = nn := (hw k hk).1.trans w
          have en1 : n + 1 - 1 = n := by omega
          refine Or.inr ⟨I g, _, _, c', m', ?_, ?_, ?_, hr.tab g3 g4⟩
          · simp (disch := omega) only [fX5_free, fX5_spotOf, fX4_takeHouse, needPort_t ha hb, dropUse_eq hk g1, ck1, bd1, bx1, bx2, aS_at, iS_at, upd_at, ↓reduceIte, Nat.reduceEqDiff, Nat.reduceAdd, Nat.reduceMul, Nat.reduceSub, Nat.reduceDiv, Nat.reduceLT, Nat.reduceLeDiff, Nat.reduceBEq, ne_eq, not_true_eq_false, not_false_eq_true, reduceCtorEq, if_true, if_false, eq_self, Nat.add_zero, Nat.zero_add, lit, lit_nn, I_nat, I_add, I_mul, I_sub, I_div, inb_t, I_ne, I_nn, nn_I, nn_lt, nn_le, lt_nn, le_nn, I_t, I_f, I_lt_t, I_lt_f, isb_0, isb_1, vz_0, vz_1, nn_nat, e1, hbare, w0, w2, ecn, en1]
          · simp (disch := omega) only [fX6_free, fX6_free_J36, isPort_t ha hb, begins_eq _ hk, fails_0, ck1, bd1, bx1, bx2, aS_at, iS_at, upd_at, ↓reduceIte, Nat.reduceEqDiff, Nat.reduceAdd, Nat.reduceMul, Nat.reduceSub, Nat.reduceDiv, Nat.reduceLT, Nat.reduceLeDiff, Nat.reduceBEq, ne_eq, not_true_eq_false, not_false_eq_true, reduceCtorEq, if_true, if_false, eq_self, Nat.add_zero, Nat.zero_add, lit, lit_nn, I_nat, I_add, I_mul, I_sub, I_div, inb_t, I_ne, I_nn, nn_I, nn_lt, nn_le, lt_nn, le_nn, I_t, I_f, I_lt_t, I_lt_f, isb_0, isb_1, vz_0, vz_1, nn_nat, e2, uu, I01, w, eg, g2]
          · rw [g3 40 (by omega)]
            simp (disch := omega) only [ck1, bd1, bx1, bx2, aS_at, iS_at, upd_at, ↓reduceIte, Nat.reduceEqDiff, Nat.reduceAdd, Nat.reduceMul, Nat.reduceSub, Nat.reduceDiv, Nat.reduceLT, Nat.reduceLeDiff, Nat.reduceBEq, ne_eq, not_true_eq_false, not_false_eq_true, reduceCtorEq, if_true, if_false, eq_self, Nat.add_zero, Nat.zero_add, lit, lit_nn, I_nat, I_add, I_mul, I_sub, I_div, inb_t, I_ne, I_nn, nn_I, nn_lt, nn_le, lt_nn, le_nn, I_t, I_f, I_lt_t, I_lt_f, isb_0, isb_1, vz_0, vz_1, nn_nat]
      · have hjk : j ≠ k := fun z => a4 (by rw [z])
        obtain ⟨n0, ec, en⟩ := hcn.1
        have z3 : mm 3 k ≠ nn := by rw [a2, ne_eq, I_nn (by omega)]; exact fun h => h
        have q := cnt_upd (mm 3) k nn 30 hk
        rw [if_neg z3, if_pos rfl] at q
        obtain ⟨n, rfl⟩ : ∃ n, n0 = n + 1 := ⟨n0 - 1, by omega⟩
        have hr := free_wire h0 hk hj a2 a3 hjk (n := n) (by show _ = cnt (mm 3) 30; omega)
        obtain ⟨d1, m1, g1, g2, g3, g4⟩ := forget_both (c := cb) (m := aS (aS (aS (aS (aS (iS mm 40 (I 0)) 5 (I k) nn) 3 (I k) nn) 12 (I k) (I 0)) 13 (I k) (I 0)) 14 (I k) (I 0)) ht hk
        obtain ⟨d2, m2, f1, f2, f3, f4⟩ := forget_both (c := d1) (m := aS (aS (aS (aS m1 3 (I j) nn) 12 (I j) (I 0)) 13 (I j) (I 0)) 14 (I j) (I 0)) g4 hj
        have hF : Fm m2 _ := Fm.trans f3 ((((Fm.aS g3 3 (I j) nn).aS 12 (I j) (I 0)).aS 13 (I j) (I 0)).aS 14 (I j) (I 0))
        have z5 : mm 5 k = nn := by
          rcases h.2.2.1.1 k hk with z | z
          · exact z
          · exact absurd z.1 z3
        have w0 : cw 0 k = I j := (hw k hk).1.trans a2
        have en1 : n + 1 - 1 = n := by omega
        refine Or.inr ⟨nn, _, _, d2, m2, ?_, ?_, ?_, hr.tab hF f4⟩
        · simp (disch := omega) only [fX5_free, fX5_spotOf, fX4_takeWire, needPort_t ha hb, dropUse_eq hk g1, dropUse_eq hj f1, ck1, bd1, bx1, bx2, aS_at, iS_at, upd_at, ↓reduceIte, Nat.reduceEqDiff, Nat.reduceAdd, Nat.reduceMul, Nat.reduceSub, Nat.reduceDiv, Nat.reduceLT, Nat.reduceLeDiff, Nat.reduceBEq, ne_eq, not_true_eq_false, not_false_eq_true, reduceCtorEq, if_true, if_false, eq_self, Nat.add_zero, Nat.zero_add, lit, lit_nn, I_nat, I_add, I_mul, I_sub, I_div, inb_t, I_ne, I_nn, nn_I, nn_lt, nn_le, lt_nn, le_nn, I_t, I_f, I_lt_t, I_lt_f, isb_0, isb_1, vz_0, vz_1, nn_nat, e1, hbare, w0, ec, en1]
        · simp (disch := omega) only [fX6_free, fX6_free_J36, isPort_t ha hb, begins_eq _ hk, begins_eq _ hj, fails_0, ck1, bd1, bx1, bx2, aS_at, iS_at, upd_at, ↓reduceIte, Nat.reduceEqDiff, Nat.reduceAdd, Nat.reduceMul, Nat.reduceSub, Nat.reduceDiv, Nat.reduceLT, Nat.reduceLeDiff, Nat.reduceBEq, ne_eq, not_true_eq_false, not_false_eq_true, reduceCtorEq, if_true, if_false, eq_self, Nat.add_zero, Nat.zero_add, lit, lit_nn, I_nat, I_add, I_mul, I_sub, I_div, inb_t, I_ne, I_nn, nn_I, nn_lt, nn_le, lt_nn, le_nn, I_t, I_f, I_lt_t, I_lt_f, isb_0, isb_1, vz_0, vz_1, nn_nat, e2, uu, I01, a2, z5, g2, f2]
        · rw [hF 40 (by omega)]
          simp (disch := omega) only [ck1, bd1, bx1, bx2, aS_at, iS_at, upd_at, ↓reduceIte, Nat.reduceEqDiff, Nat.reduceAdd, Nat.reduceMul, Nat.reduceSub, Nat.reduceDiv, Nat.reduceLT, Nat.reduceLeDiff, Nat.reduceBEq, ne_eq, not_true_eq_false, not_false_eq_true, reduceCtorEq, if_true, if_false, eq_self, Nat.add_zero, Nat.zero_add, lit, lit_nn, I_nat, I_add, I_mul, I_sub, I_div, inb_t, I_ne, I_nn, nn_I, nn_lt, nn_le, lt_nn, le_nn, I_t, I_f, I_lt_t, I_lt_f, isb_0, isb_1, vz_0, vz_1, nn_nat]
  · refine Or.inl ⟨1, I 0, iS mm 40 (I 1), Or.inl ⟨rfl, rfl⟩, ?_, ?_, h.thrown _⟩
    · simp (disch := omega) only [fX5_free, hc, ck1, bd1, bx1, bx2, aS_at, iS_at, upd_at, ↓reduceIte, Nat.reduceEqDiff, Nat.reduceAdd, Nat.reduceMul, Nat.reduceSub, Nat.reduceDiv, Nat.reduceLT, Nat.reduceLeDiff, Nat.reduceBEq, ne_eq, not_true_eq_false, not_false_eq_true, reduceCtorEq, if_true, if_false, eq_self, Nat.add_zero, Nat.zero_add, lit, lit_nn, I_nat, I_add, I_mul, I_sub, I_div, inb_t, I_ne, I_nn, nn_I, nn_lt, nn_le, lt_nn, le_nn, I_t, I_f, I_lt_t, I_lt_f, isb_0, isb_1, vz_0, vz_1, nn_nat]
    · simp (disch := omega) only [fX6_free, fX6_free_J36, hm, fails_k, ck1, bd1, bx1, bx2, aS_at, iS_at, upd_at, ↓reduceIte, Nat.reduceEqDiff, Nat.reduceAdd, Nat.reduceMul, Nat.reduceSub, Nat.reduceDiv, Nat.reduceLT, Nat.reduceLeDiff, Nat.reduceBEq, ne_eq, not_true_eq_false, not_false_eq_true, reduceCtorEq, if_true, if_false, eq_self, Nat.add_zero, Nat.zero_add, lit, lit_nn, I_nat, I_add, I_mul, I_sub, I_div, inb_t, I_ne, I_nn, nn_I, nn_lt, nn_le, lt_nn, le_nn, I_t, I_f, I_lt_t, I_lt_f, isb_0, isb_1, vz_0, vz_1, nn_nat]

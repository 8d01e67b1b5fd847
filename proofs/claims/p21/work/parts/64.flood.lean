/-! ===== floods and storms ===== -/
theorem flood_loop {N n : Nat} {cs cw ct cl cb cp mm : St} (h : Rel N cs cw ct cl cb mm) (hq : Qu n cp mm) (hn : n + 5 < 2400) {p s i l to : Nat} (hs : s < 6) (hp : p < 30) (hi : i < n) (h4 : i < 400) (h1 : 1 ≤ l) (hl : l ≤ 3) (ht : to ≤ 10) : ∃ r n' cs' cp' mm', r ≤ 5 ∧ n ≤ n' ∧ n' ≤ n + 5 ∧ fX5_flood_L69 cw ct cl cb (I i) (I l) (I to) (I p) (I (5 * s)) cs cp (I 0) (I (5 * s)) = some (I r, cs', ct, cb, cp') ∧ fX6_comes_L201 (I i) (I to) (I p) (I l) (mm 33 i) (I s) mm (I 0) (I (5 * s)) = some (I r, mm') ∧ Rel N cs' cw ct cl cb mm' ∧ Qu n' cp' mm' ∧ FQ n mm mm' := by
  obtain ⟨z, ⟨u1, u2, u3, u4, u5, u6⟩, g1, g2⟩ := loop_two (ι := Unit) (ι' := Unit) (σ := St × St × St × Nat × Nat) (step := fun _ k a => fX5_flood_S69 k cw ct cl cb (I i) (I l) (I to) (I p) (I (5 * s)) (a.1) (a.2.1) (a.2.2.1) (a.2.2.2)) (step' := fun _ k a => fX6_comes_S201 k (I i) (I to) (I p) (I l) (mm 33 i) (I s) (a.1) (a.2.1) (a.2.2)) (fun t z => (z.1, z.2.1, I z.2.2.2.2, I (5 * s + t))) (fun t z => (z.2.2.1, I z.2.2.2.2, I (5 * s + t))) 5 (fun t z => Rel N z.1 cw ct cl cb z.2.2.1 ∧ Qu z.2.2.2.1 z.2.1 z.2.2.1 ∧ FQ n mm z.2.2.1 ∧ n ≤ z.2.2.2.1 ∧ z.2.2.2.1 ≤ n + t ∧ z.2.2.2.2 ≤ t) (fun _ z => some (I z.2.2.2.2, z.1, ct, cb, z.2.1)) (fun _ z => some (I z.2.2.2.2, z.2.2.1))
    (by
      intro t z ht' ⟨u1, u2, u3, u4, u5, u6⟩
      have hk : 5 * s + t < 30 := by omega
      have e12 := (u1.2.2.2.2.2.2.2.2.2.2.2.2.2.2.2.1 (5 * s + t) hk).1
      have o12 := (u1.2.2.2.2.2.2.2.1 (5 * s + t) hk).2.1
      by_cases y : 5 * s + t = p
      · refine ⟨z, ⟨u1, u2, u3, u4, by omega, by omega⟩, fun _ rec => ?_, fun _ rec => ?_⟩
        · simp (disch := omega) only [fX5_flood_S69, ck1, bd1, bx1, bx2, aS_at, iS_at, upd_at, ↓reduceIte, Nat.reduceEqDiff, Nat.reduceAdd, Nat.reduceMul, Nat.reduceSub, Nat.reduceDiv, Nat.reduceLT, Nat.reduceLeDiff, Nat.reduceBEq, ne_eq, not_true_eq_false, not_false_eq_true, reduceCtorEq, if_true, if_false, eq_self, Nat.add_zero, Nat.zero_add, lit, lit_nn, I_nat, I_add, I_mul, I_sub, I_div, inb_t, I_ne, I_nn, nn_I, nn_lt, nn_le, lt_nn, le_nn, I_t, I_f, I_lt_t, I_lt_f, isb_0, isb_1, vz_0, vz_1, nn_nat, y, Nat.add_assoc]
          rw [show 5 * s + (t + 1) = p + 1 by omega]
        · simp (disch := omega) only [fX6_comes_S201, ck1, bd1, bx1, bx2, aS_at, iS_at, upd_at, ↓reduceIte, Nat.reduceEqDiff, Nat.reduceAdd, Nat.reduceMul, Nat.reduceSub, Nat.reduceDiv, Nat.reduceLT, Nat.reduceLeDiff, Nat.reduceBEq, ne_eq, not_true_eq_false, not_false_eq_true, reduceCtorEq, if_true, if_false, eq_self, Nat.add_zero, Nat.zero_add, lit, lit_nn, I_nat, I_add, I_mul, I_sub, I_div, inb_t, I_ne, I_nn, nn_I, nn_lt, nn_le, lt_nn, le_nn, I_t, I_f, I_lt_t, I_lt_f, isb_0, isb_1, vz_0, vz_1, nn_nat, y, Nat.add_assoc]
          rw [show 5 * s + (t + 1) = p + 1 by omega]
      · rcases isI2 o12 with o | o
        · have c6 := e12.trans o
          refine ⟨z, ⟨u1, u2, u3, u4, by omega, by omega⟩, fun _ rec => ?_, fun _ rec => ?_⟩
          · simp (disch := omega) only [fX5_flood_S69, ck1, bd1, bx1, bx2, aS_at, iS_at, upd_at, ↓reduceIte, Nat.reduceEqDiff, Nat.reduceAdd, Nat.reduceMul, Nat.reduceSub, Nat.reduceDiv, Nat.reduceLT, Nat.reduceLeDiff, Nat.reduceBEq, ne_eq, not_true_eq_false, not_false_eq_true, reduceCtorEq, if_true, if_false, eq_self, Nat.add_zero, Nat.zero_add, lit, lit_nn, I_nat, I_add, I_mul, I_sub, I_div, inb_t, I_ne, I_nn, nn_I, nn_lt, nn_le, lt_nn, le_nn, I_t, I_f, I_lt_t, I_lt_f, isb_0, isb_1, vz_0, vz_1, nn_nat, I_inj, y, c6, Nat.add_assoc]
          · simp (disch := omega) only [fX6_comes_S201, ck1, bd1, bx1, bx2, aS_at, iS_at, upd_at, ↓reduceIte, Nat.reduceEqDiff, Nat.reduceAdd, Nat.reduceMul, Nat.reduceSub, Nat.reduceDiv, Nat.reduceLT, Nat.reduceLeDiff, Nat.reduceBEq, ne_eq, not_true_eq_false, not_false_eq_true, reduceCtorEq, if_true, if_false, eq_self, Nat.add_zero, Nat.zero_add, lit, lit_nn, I_nat, I_add, I_mul, I_sub, I_div, inb_t, I_ne, I_nn, nn_I, nn_lt, nn_le, lt_nn, le_nn, I_t, I_f, I_lt_t, I_lt_f, isb_0, isb_1, vz_0, vz_1, nn_nat, I_inj, y, o, Nat.add_assoc]
        · have c6 := e12.trans o
          obtain ⟨r, n', cs', cp', mm', a1, a2, a3, a4, a5, a6, a7, a8⟩ := out_both u1 u2 (by omega) hk (show i < z.2.2.2.1 by omega) h4 h1 hl ht
          have e33 : z.2.2.1 33 i = mm 33 i := u3.2 33 i (by omega) (by omega) hi
          rw [e33] at a5
          refine ⟨(cs', cp', mm', n', z.2.2.2.2 + r), ⟨a6, a7, u3.trans a8 u4, (by show n ≤ n'; omega), (by show n' ≤ n + (t + 1); omega), (by show z.2.2.2.2 + r ≤ t + 1; omega)⟩, fun _ rec => ?_, fun _ rec => ?_⟩
          · simp (disch := omega) only [fX5_flood_S69, ck1, bd1, bx1, bx2, aS_at, iS_at, upd_at, ↓reduceIte, Nat.reduceEqDiff, Nat.reduceAdd, Nat.reduceMul, Nat.reduceSub, Nat.reduceDiv, Nat.reduceLT, Nat.reduceLeDiff, Nat.reduceBEq, ne_eq, not_true_eq_false, not_false_eq_true, reduceCtorEq, if_true, if_false, eq_self, Nat.add_zero, Nat.zero_add, lit, lit_nn, I_nat, I_add, I_mul, I_sub, I_div, inb_t, I_ne, I_nn, nn_I, nn_lt, nn_le, lt_nn, le_nn, I_t, I_f, I_lt_t, I_lt_f, isb_0, isb_1, vz_0, vz_1, nn_nat, I_inj, y, c6, a4, Nat.add_assoc, I01]
          · simp (disch := omega) only [fX6_comes_S201, ck1, bd1, bx1, bx2, aS_at, iS_at, upd_at, ↓reduceIte, Nat.reduceEqDiff, Nat.reduceAdd, Nat.reduceMul, Nat.reduceSub, Nat.reduceDiv, Nat.reduceLT, Nat.reduceLeDiff, Nat.reduceBEq, ne_eq, not_true_eq_false, not_false_eq_true, reduceCtorEq, if_true, if_false, eq_self, Nat.add_zero, Nat.zero_add, lit, lit_nn, I_nat, I_add, I_mul, I_sub, I_div, inb_t, I_ne, I_nn, nn_I, nn_lt, nn_le, lt_nn, le_nn, I_t, I_f, I_lt_t, I_lt_f, isb_0, isb_1, vz_0, vz_1, nn_nat, I_inj, y, o, a5, Nat.add_assoc, I01])
    (by
      intro z _
      refine ⟨fun _ rec => ?_, fun _ rec => ?_⟩
      · simp (disch := omega) only [fX5_flood_S69, ck1, bd1, bx1, bx2, aS_at, iS_at, upd_at, ↓reduceIte, Nat.reduceEqDiff, Nat.reduceAdd, Nat.reduceMul, Nat.reduceSub, Nat.reduceDiv, Nat.reduceLT, Nat.reduceLeDiff, Nat.reduceBEq, ne_eq, not_true_eq_false, not_false_eq_true, reduceCtorEq, if_true, if_false, eq_self, Nat.add_zero, Nat.zero_add, lit, lit_nn, I_nat, I_add, I_mul, I_sub, I_div, inb_t, I_ne, I_nn, nn_I, nn_lt, nn_le, lt_nn, le_nn, I_t, I_f, I_lt_t, I_lt_f, isb_0, isb_1, vz_0, vz_1, nn_nat]
      · simp (disch := omega) only [fX6_comes_S201, ck1, bd1, bx1, bx2, aS_at, iS_at, upd_at, ↓reduceIte, Nat.reduceEqDiff, Nat.reduceAdd, Nat.reduceMul, Nat.reduceSub, Nat.reduceDiv, Nat.reduceLT, Nat.reduceLeDiff, Nat.reduceBEq, ne_eq, not_true_eq_false, not_false_eq_true, reduceCtorEq, if_true, if_false, eq_self, Nat.add_zero, Nat.zero_add, lit, lit_nn, I_nat, I_add, I_mul, I_sub, I_div, inb_t, I_ne, I_nn, nn_I, nn_lt, nn_le, lt_nn, le_nn, I_t, I_f, I_lt_t, I_lt_f, isb_0, isb_1, vz_0, vz_1, nn_nat])
    5 0 (cs, cp, mm, n, 0) 1000 (by omega) (by omega) ⟨h, hq, FQ.refl _ _, Nat.le_refl _, Nat.le_refl _, Nat.le_refl _⟩
  exact ⟨z.2.2.2.2, z.2.2.2.1, z.1, z.2.1, z.2.2.1, u6, u4, u5, g1 (), g2 (), u1, u2, u3⟩
theorem Rel.flood1 {N : Nat} {cs cw ct cl cb mm : St} (h : Rel N cs cw ct cl cb mm) {k : Nat} (hk : k < 30) (v : Int32) : Rel N (aS cs 6 (I k) v) cw ct cl cb (aS mm 15 (I k) v) := by
  obtain ⟨p1, p2, p3, p4, p5, p6, p7, p8, p9, c1, c2, c3, c4, c5, c6, c7, c8, c9, c10⟩ := h
  refine ⟨p1, p2, p3, p4, p5, p6, p7, p8, p9, c1, c2, c3, c4, c5, c6, c7, c8, ⟨fun j hj => ?_, c9.2⟩, c10⟩
  simp (disch := omega) only [ck1, bd1, bx1, bx2, aS_at, iS_at, upd_at, ↓reduceIte, Nat.reduceEqDiff, Nat.reduceAdd, Nat.reduceMul, Nat.reduceSub, Nat.reduceDiv, Nat.reduceLT, Nat.reduceLeDiff, Nat.reduceBEq, ne_eq, not_true_eq_false, not_false_eq_true, reduceCtorEq, if_true, if_false, eq_self, Nat.add_zero, Nat.zero_add, lit, lit_nn, I_nat, I_add, I_mul, I_sub, I_div, inb_t, I_ne, I_nn, nn_I, nn_lt, nn_le, lt_nn, le_nn, I_t, I_f, I_lt_t, I_lt_f, isb_0, isb_1, vz_0, vz_1, nn_nat]
  by_cases z : j = k
  · rw [if_pos z, if_pos z]
  · rw [if_neg z, if_neg z]; exact c9.1 j hj
/-- the start of a storm, on both sides, the tables apart -/
theorem begin_storm {N : Nat} {cs cw ct cl cb mm : St} (h : Rel N cs cw ct cl cb mm) {k e : Nat} (hk : k < 30) (he : e ≤ N + 5) (he0 : e ≠ 0) : Rel N cs cw (aS (aS (aS (aS ct 5 (I k) (I e)) 6 (I k) (I 0)) 7 (I k) (I 0)) 8 (I k) (I 0)) cl cb (aS (aS (aS (aS (aS mm 10 (I k) (I 1)) 12 (I k) (I 0)) 13 (I k) (I 0)) 14 (I k) (I 0)) 11 (I k) (I e)) := by
  obtain ⟨p1, p2, p3, p4, p5, p6, p7, p8, p9, c1, c2, c3, c4, c5, c6, c7, c8, c9, c10⟩ := h
  have hN := p6.1
  have ne : ¬ I e = I 0 := by rw [I_inj (by omega) (by omega)]; exact he0
  refine ⟨p1, p2, p3, p4, p5, p6, p7, ?_, p9.shut _ _, c1, c2, c3, c4, c5, c6, ?_, c8, c9, c10⟩
  · intro i hi
    have d := p8 i hi
    simp (disch := omega) only [ck1, bd1, bx1, bx2, aS_at, iS_at, upd_at, ↓reduceIte, Nat.reduceEqDiff, Nat.reduceAdd, Nat.reduceMul, Nat.reduceSub, Nat.reduceDiv, Nat.reduceLT, Nat.reduceLeDiff, Nat.reduceBEq, ne_eq, not_true_eq_false, not_false_eq_true, reduceCtorEq, if_true, if_false, eq_self, Nat.add_zero, Nat.zero_add, lit, lit_nn, I_nat, I_add, I_mul, I_sub, I_div, inb_t, I_ne, I_nn, nn_I, nn_lt, nn_le, lt_nn, le_nn, I_t, I_f, I_lt_t, I_lt_f, isb_0, isb_1, vz_0, vz_1, nn_nat]
    by_cases i1 : i = k
    · subst i1
      simp only [↓reduceIte]
      refine ⟨⟨1, by omega, rfl⟩, ⟨0, by omega, rfl⟩, ⟨0, by omega, rfl⟩, ⟨e, he, rfl⟩, fun e => ?_, fun e => ?_, fun _ => trivial, fun e => ?_, 0, by omega, rfl, fun _ _ => by omega⟩
      · exact False.elim (by rw [I01] at e; exact e)
      · exact False.elim (by rw [I10] at e; exact e)
      · exact False.elim (by rw [I10] at e; exact e)
    · simp only [i1, ↓reduceIte]
      exact d
  · intro i hi
    have d := c7 i hi
    simp (disch := omega) only [ck1, bd1, bx1, bx2, aS_at, iS_at, upd_at, ↓reduceIte, Nat.reduceEqDiff, Nat.reduceAdd, Nat.reduceMul, Nat.reduceSub, Nat.reduceDiv, Nat.reduceLT, Nat.reduceLeDiff, Nat.reduceBEq, ne_eq, not_true_eq_false, not_false_eq_true, reduceCtorEq, if_true, if_false, eq_self, Nat.add_zero, Nat.zero_add, lit, lit_nn, I_nat, I_add, I_mul, I_sub, I_div, inb_t, I_ne, I_nn, nn_I, nn_lt, nn_le, lt_nn, le_nn, I_t, I_f, I_lt_t, I_lt_f, isb_0, isb_1, vz_0, vz_1, nn_nat]
    by_cases i1 : i = k
    · subst i1
      simp only [↓reduceIte]
      refine ⟨trivial, trivial, fun e => ?_, fun _ z => absurd z ne, fun _ _ => trivial, fun _ => trivial, fun _ => trivial, fun _ _ => trivial⟩
      exact False.elim (by rw [I01] at e; exact e)
    · simp only [i1, ↓reduceIte]
      exact d
theorem flood_both {N n : Nat} {cs cw ct cl cb cp mm : St} (h : Rel N cs cw ct cl cb mm) (hq : Qu n cp mm) (hn : n + 5 < 2400) {p i l to : Nat} (hp : p < 30) (ei : cp 0 i = I p) (hi : i < n) (h4 : i < 400) (h1 : 1 ≤ l) (hl : l ≤ 3) (ht : to ≤ 10) : ∃ r n' cs' ct' cb' cp' mm', r ≤ 5 ∧ n ≤ n' ∧ n' ≤ n + 5 ∧ fX5_flood cs cw ct cl cb cp (I i) (I l) (I to) = some (I r, cs', ct', cb', cp') ∧ fX6_comes_J146 mm (I i) (I to) (I p) (I l) (mm 33 i) (I (p / 5)) = some (I r, mm') ∧ Rel N cs' cw ct' cl cb' mm' ∧ Qu n' cp' mm' ∧ mm' 40 = mm 40 := by
  have e6 := h.2.2.2.2.2.2.2.2.2.2.2.2.2.2.2.2.2.1.1 p hp
  have e9 : cs 9 0 = mm 1 0 := h.2.2.2.2.2.2.2.2.2.2.2.2.2.2.2.2.1.2
  have hF := h.flood1 hp (mm 15 p + I 1)
  have e5 : p - (p - p / 5 * 5) = 5 * (p / 5) := by omega
  by_cases z : mm 15 p + I 1 ≤ mm 1 0
  · obtain ⟨r, n', cs', cp', mm', a1, a2, a3, a4, a5, a6, a7, a8⟩ := flood_loop (cp := cp) hF ⟨hq.1, hq.2.1, hq.2.2⟩ hn (show p / 5 < 6 by omega) hp hi h4 h1 hl ht
    refine ⟨r, n', cs', ct, cb, cp', mm', a1, a2, a3, ?_, ?_, a6, a7, ?_⟩
    · rw [← a4]
      simp (disch := omega) only [fX5_flood, ck1, bd1, bx1, bx2, aS_at, iS_at, upd_at, ↓reduceIte, Nat.reduceEqDiff, Nat.reduceAdd, Nat.reduceMul, Nat.reduceSub, Nat.reduceDiv, Nat.reduceLT, Nat.reduceLeDiff, Nat.reduceBEq, ne_eq, not_true_eq_false, not_false_eq_true, reduceCtorEq, if_true, if_false, eq_self, Nat.add_zero, Nat.zero_add, lit, lit_nn, I_nat, I_add, I_mul, I_sub, I_div, inb_t, I_ne, I_nn, nn_I, nn_lt, nn_le, lt_nn, le_nn, I_t, I_f, I_lt_t, I_lt_f, isb_0, isb_1, vz_0, vz_1, nn_nat, ei, e6, e9, z, e5]
    · refine Eq.trans ?_ a5
      simp (disch := omega) only [fX6_comes_J146, ck1, bd1, bx1, bx2, aS_at, iS_at, upd_at, ↓reduceIte, Nat.reduceEqDiff, Nat.reduceAdd, Nat.reduceMul, Nat.reduceSub, Nat.reduceDiv, Nat.reduceLT, Nat.reduceLeDiff, Nat.reduceBEq, ne_eq, not_true_eq_false, not_false_eq_true, reduceCtorEq, if_true, if_false, eq_self, Nat.add_zero, Nat.zero_add, lit, lit_nn, I_nat, I_add, I_mul, I_sub, I_div, inb_t, I_ne, I_nn, nn_I, nn_lt, nn_le, lt_nn, le_nn, I_t, I_f, I_lt_t, I_lt_f, isb_0, isb_1, vz_0, vz_1, nn_nat, z]
    · rw [a8.1 40 (by omega)]; rfl
  · obtain ⟨m, hm, em⟩ := h.2.2.2.2.2.1.2.1
    have ec : ct 9 0 = I m := (h.2.2.2.2.2.2.2.2.2.2.2.2.2.2.2.2.1.1).trans em
    have hS := begin_storm hF hp (show m + 5 ≤ N + 5 by omega) (by omega)
    obtain ⟨c', m', g1, g2, g3, g4⟩ := forget_both (m := (aS (aS (aS (aS (aS mm 15 (I p) (mm 15 p + I 1)) 10 (I p) (I 1)) 12 (I p) (I 0)) 13 (I p) (I 0)) 14 (I p) (I 0))) h.2.2.2.2.2.2.2.2.2.2.2.2.2.2.2.2.2.2 hp
    have f3 : Fm (aS m' 11 (I p) (I (m + 5))) (aS (aS (aS (aS (aS (aS mm 15 (I p) (mm 15 p + I 1)) 10 (I p) (I 1)) 12 (I p) (I 0)) 13 (I p) (I 0)) 14 (I p) (I 0)) 11 (I p) (I (m + 5))) := Fm.aS g3 11 (I p) (I (m + 5))
    have m0 : m' 0 0 = I m := by
      rw [g3 0 (by omega)]
      exact em
    refine ⟨0, n, _, _, c', cp, aS m' 11 (I p) (I (m + 5)), by omega, by omega, by omega, ?_, ?_, hS.tab f3 g4, ⟨?_, hq.2.1, fun x hx hx4 => ?_⟩, ?_⟩
    · simp (disch := omega) only [fX5_flood, fX5_shutUntil, fX3_beginShut, close_eq _ hp, ck1, bd1, bx1, bx2, aS_at, iS_at, upd_at, ↓reduceIte, Nat.reduceEqDiff, Nat.reduceAdd, Nat.reduceMul, Nat.reduceSub, Nat.reduceDiv, Nat.reduceLT, Nat.reduceLeDiff, Nat.reduceBEq, ne_eq, not_true_eq_false, not_false_eq_true, reduceCtorEq, if_true, if_false, eq_self, Nat.add_zero, Nat.zero_add, lit, lit_nn, I_nat, I_add, I_mul, I_sub, I_div, inb_t, I_ne, I_nn, nn_I, nn_lt, nn_le, lt_nn, le_nn, I_t, I_f, I_lt_t, I_lt_f, isb_0, isb_1, vz_0, vz_1, nn_nat, ei, e6, e9, z, ec, g1]
    · simp (disch := omega) only [fX6_comes_J146, fX6_shuts, begins_eq _ hp, ck1, bd1, bx1, bx2, aS_at, iS_at, upd_at, ↓reduceIte, Nat.reduceEqDiff, Nat.reduceAdd, Nat.reduceMul, Nat.reduceSub, Nat.reduceDiv, Nat.reduceLT, Nat.reduceLeDiff, Nat.reduceBEq, ne_eq, not_true_eq_false, not_false_eq_true, reduceCtorEq, if_true, if_false, eq_self, Nat.add_zero, Nat.zero_add, lit, lit_nn, I_nat, I_add, I_mul, I_sub, I_div, inb_t, I_ne, I_nn, nn_I, nn_lt, nn_le, lt_nn, le_nn, I_t, I_f, I_lt_t, I_lt_f, isb_0, isb_1, vz_0, vz_1, nn_nat, z, g2, m0]
    · rw [f3 35 (by omega)]; exact hq.1
    · obtain ⟨p', t', e', o', y1, y2, y3, y4, y5, y6, y7, y8, y9, y10, y11, y12⟩ := hq.2.2 x hx hx4
      have k : ∀ q, 31 ≤ q → q ≤ 34 → (aS m' 11 (I p) (I (m + 5))) q = mm q := fun q h1 h2 => by
        rw [f3 q (by omega)]
        simp only [aS_at]
        rw [if_neg (by omega), if_neg (by omega), if_neg (by omega), if_neg (by omega), if_neg (by omega), if_neg (by omega)]
      refine ⟨p', t', e', o', y1, y2, y3, y4, y5, ?_, y7, ?_, y9, ?_, y11, ?_⟩
      · rw [k 31 (by omega) (by omega)]; exact y6
      · rw [k 32 (by omega) (by omega)]; exact y8
      · rw [k 33 (by omega) (by omega)]; exact y10
      · rw [k 34 (by omega) (by omega)]; exact y12
    · rw [f3 40 (by omega)]; rfl

/-! ===== a frame's steps, on both sides ===== -/
def Qr (cp mm : St) (i : Nat) : Prop := ∃ p t e o, p < 30 ∧ t ≤ 3 ∧ e ≤ 3 ∧ o ≤ 12 ∧ cp 0 i = I p ∧ mm 31 i = I p ∧ cp 1 i = I t ∧ mm 32 i = I t ∧ cp 2 i = I e ∧ mm 33 i = I e ∧ cp 3 i = I o ∧ mm 34 i = I o
/-- n steps in the reference's row, the first 400 of them in the class's -/
def Qu (n : Nat) (cp mm : St) : Prop := mm 35 0 = I n ∧ cp 4 0 = I (min n 400) ∧ ∀ i, i < n → i < 400 → Qr cp mm i
def FQ (n : Nat) (a b : St) : Prop := (∀ q, q < 29 ∨ 35 < q → b q = a q) ∧ ∀ q x, 31 ≤ q → q ≤ 34 → x < n → b q x = a q x
theorem FQ.refl (n : Nat) (a : St) : FQ n a a := ⟨fun _ _ => rfl, fun _ _ _ _ _ => rfl⟩
theorem FQ.trans {n m : Nat} {a b c : St} (h : FQ n a b) (k : FQ m b c) (hn : n ≤ m) : FQ n a c := ⟨fun q hq => (k.1 q hq).trans (h.1 q hq), fun q x h1 h2 h3 => (k.2 q x h1 h2 (by omega)).trans (h.2 q x h1 h2 h3)⟩
theorem queue_both {n : Nat} {cp mm : St} (h : Qu n cp mm) (hn : n < 2400) {p t e o : Nat} (hp : p < 30) (ht : t ≤ 3) (he : e ≤ 3) (ho : o ≤ 12) : ∃ cp' mm', fX1_add cp (I p) (I t) (I e) (I o) = some cp' ∧ fX6_queues mm (I p) (I t) (I e) (I o) = some mm' ∧ Qu (n + 1) cp' mm' ∧ FQ n mm mm' ∧ mm' 29 = mm 29 ∧ mm' 30 = mm 30 := by
  obtain ⟨q1, q2, q3⟩ := h
  have fr : FQ n mm (iS (aS (aS (aS (aS mm 31 (I n) (I p)) 32 (I n) (I t)) 33 (I n) (I e)) 34 (I n) (I o)) 35 (I (n + 1))) := by
    refine ⟨fun q hq => ?_, fun q x h1 h2 hx => ?_⟩
    · simp only [aS_at, iS_at]
      rw [if_neg (by omega), if_neg (by omega), if_neg (by omega), if_neg (by omega), if_neg (by omega)]
    · have hne : ¬ x = n := by omega
      rcases (show q = 31 ∨ q = 32 ∨ q = 33 ∨ q = 34 by omega) with rfl | rfl | rfl | rfl <;> simp (disch := omega) only [ck1, bd1, bx1, bx2, aS_at, iS_at, upd_at, ↓reduceIte, Nat.reduceEqDiff, Nat.reduceAdd, Nat.reduceMul, Nat.reduceSub, Nat.reduceDiv, Nat.reduceLT, Nat.reduceLeDiff, Nat.reduceBEq, ne_eq, not_true_eq_false, not_false_eq_true, reduceCtorEq, if_true, if_false, eq_self, Nat.add_zero, Nat.zero_add, lit, lit_nn, I_nat, I_add, I_mul, I_sub, I_div, inb_t, I_ne, I_nn, nn_I, nn_lt, nn_le, lt_nn, le_nn, I_t, I_f, I_lt_t, I_lt_f, isb_0, isb_1, vz_0, vz_1, nn_nat, hne]
  by_cases z : n < 400
  · rw [show min n 400 = n by omega] at q2
    refine ⟨iS (aS (aS (aS (aS cp 0 (I n) (I p)) 1 (I n) (I t)) 2 (I n) (I e)) 3 (I n) (I o)) 4 (I (n + 1)), _, ?_, ?_, ⟨rfl, ?_, fun i hi h4 => ?_⟩, fr, rfl, rfl⟩
    · simp (disch := omega) only [fX1_add, ck1, bd1, bx1, bx2, aS_at, iS_at, upd_at, ↓reduceIte, Nat.reduceEqDiff, Nat.reduceAdd, Nat.reduceMul, Nat.reduceSub, Nat.reduceDiv, Nat.reduceLT, Nat.reduceLeDiff, Nat.reduceBEq, ne_eq, not_true_eq_false, not_false_eq_true, reduceCtorEq, if_true, if_false, eq_self, Nat.add_zero, Nat.zero_add, lit, lit_nn, I_nat, I_add, I_mul, I_sub, I_div, inb_t, I_ne, I_nn, nn_I, nn_lt, nn_le, lt_nn, le_nn, I_t, I_f, I_lt_t, I_lt_f, isb_0, isb_1, vz_0, vz_1, nn_nat, q2]
    · simp (disch := omega) only [fX6_queues, ck1, bd1, bx1, bx2, aS_at, iS_at, upd_at, ↓reduceIte, Nat.reduceEqDiff, Nat.reduceAdd, Nat.reduceMul, Nat.reduceSub, Nat.reduceDiv, Nat.reduceLT, Nat.reduceLeDiff, Nat.reduceBEq, ne_eq, not_true_eq_false, not_false_eq_true, reduceCtorEq, if_true, if_false, eq_self, Nat.add_zero, Nat.zero_add, lit, lit_nn, I_nat, I_add, I_mul, I_sub, I_div, inb_t, I_ne, I_nn, nn_I, nn_lt, nn_le, lt_nn, le_nn, I_t, I_f, I_lt_t, I_lt_f, isb_0, isb_1, vz_0, vz_1, nn_nat, q1]
    · rw [show min (n + 1) 400 = n + 1 by omega]; rfl
    · by_cases d : i = n
      · subst d
        refine ⟨p, t, e, o, hp, ht, he, ho, ?_, ?_, ?_, ?_, ?_, ?_, ?_, ?_⟩ <;> simp (disch := omega) only [ck1, bd1, bx1, bx2, aS_at, iS_at, upd_at, ↓reduceIte, Nat.reduceEqDiff, Nat.reduceAdd, Nat.reduceMul, Nat.reduceSub, Nat.reduceDiv, Nat.reduceLT, Nat.reduceLeDiff, Nat.reduceBEq, ne_eq, not_true_eq_false, not_false_eq_true, reduceCtorEq, if_true, if_false, eq_self, Nat.add_zero, Nat.zero_add, lit, lit_nn, I_nat, I_add, I_mul, I_sub, I_div, inb_t, I_ne, I_nn, nn_I, nn_lt, nn_le, lt_nn, le_nn, I_t, I_f, I_lt_t, I_lt_f, isb_0, isb_1, vz_0, vz_1, nn_nat]
      · obtain ⟨p', t', e', o', a1, a2, a3, a4, b1, b2, b3, b4, b5, b6, b7, b8⟩ := q3 i (by omega) h4
        refine ⟨p', t', e', o', a1, a2, a3, a4, ?_, ?_, ?_, ?_, ?_, ?_, ?_, ?_⟩ <;> first | assumption | (simp (disch := omega) only [ck1, bd1, bx1, bx2, aS_at, iS_at, upd_at, ↓reduceIte, Nat.reduceEqDiff, Nat.reduceAdd, Nat.reduceMul, Nat.reduceSub, Nat.reduceDiv, Nat.reduceLT, Nat.reduceLeDiff, Nat.reduceBEq, ne_eq, not_true_eq_false, not_false_eq_true, reduceCtorEq, if_true, if_false, eq_self, Nat.add_zero, Nat.zero_add, lit, lit_nn, I_nat, I_add, I_mul, I_sub, I_div, inb_t, I_ne, I_nn, nn_I, nn_lt, nn_le, lt_nn, le_nn, I_t, I_f, I_lt_t, I_lt_f, isb_0, isb_1, vz_0, vz_1, nn_nat, d]; assumption)
  · rw [show min n 400 = 400 by omega] at q2
    refine ⟨cp, _, ?_, ?_, ⟨rfl, ?_, fun i hi h4 => ?_⟩, fr, rfl, rfl⟩
    · simp (disch := omega) only [fX1_add, ck1, bd1, bx1, bx2, aS_at, iS_at, upd_at, ↓reduceIte, Nat.reduceEqDiff, Nat.reduceAdd, Nat.reduceMul, Nat.reduceSub, Nat.reduceDiv, Nat.reduceLT, Nat.reduceLeDiff, Nat.reduceBEq, ne_eq, not_true_eq_false, not_false_eq_true, reduceCtorEq, if_true, if_false, eq_self, Nat.add_zero, Nat.zero_add, lit, lit_nn, I_nat, I_add, I_mul, I_sub, I_div, inb_t, I_ne, I_nn, nn_I, nn_lt, nn_le, lt_nn, le_nn, I_t, I_f, I_lt_t, I_lt_f, isb_0, isb_1, vz_0, vz_1, nn_nat, q2]
    · simp (disch := omega) only [fX6_queues, ck1, bd1, bx1, bx2, aS_at, iS_at, upd_at, ↓reduceIte, Nat.reduceEqDiff, Nat.reduceAdd, Nat.reduceMul, Nat.reduceSub, Nat.reduceDiv, Nat.reduceLT, Nat.reduceLeDiff, Nat.reduceBEq, ne_eq, not_true_eq_false, not_false_eq_true, reduceCtorEq, if_true, if_false, eq_self, Nat.add_zero, Nat.zero_add, lit, lit_nn, I_nat, I_add, I_mul, I_sub, I_div, inb_t, I_ne, I_nn, nn_I, nn_lt, nn_le, lt_nn, le_nn, I_t, I_f, I_lt_t, I_lt_f, isb_0, isb_1, vz_0, vz_1, nn_nat, q1]
    · rw [show min (n + 1) 400 = 400 by omega]; exact q2
    · have d : ¬ i = n := by omega
      obtain ⟨p', t', e', o', a1, a2, a3, a4, b1, b2, b3, b4, b5, b6, b7, b8⟩ := q3 i (by omega) h4
      refine ⟨p', t', e', o', a1, a2, a3, a4, ?_, ?_, ?_, ?_, ?_, ?_, ?_, ?_⟩ <;> first | assumption | (simp (disch := omega) only [ck1, bd1, bx1, bx2, aS_at, iS_at, upd_at, ↓reduceIte, Nat.reduceEqDiff, Nat.reduceAdd, Nat.reduceMul, Nat.reduceSub, Nat.reduceDiv, Nat.reduceLT, Nat.reduceLeDiff, Nat.reduceBEq, ne_eq, not_true_eq_false, not_false_eq_true, reduceCtorEq, if_true, if_false, eq_self, Nat.add_zero, Nat.zero_add, lit, lit_nn, I_nat, I_add, I_mul, I_sub, I_div, inb_t, I_ne, I_nn, nn_I, nn_lt, nn_le, lt_nn, le_nn, I_t, I_f, I_lt_t, I_lt_f, isb_0, isb_1, vz_0, vz_1, nn_nat, d]; assumption)
theorem Rel.queue {N n : Nat} {cs cw ct cl cb mm m : St} (h : Rel N cs cw ct cl cb mm) (f : FQ n mm m) (e1 : m 29 = mm 29) (e2 : m 30 = mm 30) : Rel N cs cw ct cl cb m :=
  h.eqm (fun q hq => by
    rcases hq with w | w | w
    · exact f.1 q (by omega)
    · rw [w]; exact e1
    · rw [w]; exact e2) (by rw [f.1 0 (by omega)]) (fun k _ => by rw [f.1 10 (by omega)]) (fun k _ => by rw [f.1 12 (by omega)]) (fun y hy => by unfold TT; rw [f.1 16 (by omega), f.1 17 (by omega), f.1 18 (by omega), f.1 19 (by omega), f.1 13 (by omega), f.1 14 (by omega), f.1 11 (by omega), f.1 15 (by omega), f.1 24 (by omega), f.1 25 (by omega), f.1 26 (by omega), f.1 27 (by omega), f.1 28 (by omega)])
theorem add_I0 (x : Int32) : x + I 0 = x := Int32.add_zero x
/-- a house gets it, or overhears it -/
theorem hand_both {N n : Nat} {cs cw ct cl cb cp mm : St} (h : Rel N cs cw ct cl cb mm) (hq : Qu n cp mm) {g to : Nat} (hg : g < 10) (ht : to ≤ 10) : ∃ r cs' mm', r < 2 ∧ fX5_handOver cs (I g) (I to) = some (I r, cs') ∧ (fX6_goesOut_J123 mm (I g) (I (if to = 10 ∨ to = g then 1 else 0)) = some (I r, mm')) ∧ Rel N cs' cw ct cl cb mm' ∧ Qu n cp mm' ∧ FQ n mm mm' := by
  obtain ⟨p1, p2, p3, p4, p5, p6, p7, p8, p9, c1, c2, c3, c4, c5, c6, c7, c8, c9, c10⟩ := h
  have e7 := (c9.2 g hg).1
  have e8 := (c9.2 g hg).2
  by_cases z : to = 10 ∨ to = g
  · rw [if_pos z]
    refine ⟨1, aS cs 7 (I g) (mm 29 g + I 1), aS (aS mm 29 (I g) (mm 29 g + I 1)) 30 (I g) (mm 30 g), by omega, ?_, ?_, ⟨p1, p2, p3, p4, p5, p6, p7, p8, p9, c1, c2, c3, c4, c5, c6, c7, c8, ⟨c9.1, fun x hx => ?_⟩, c10⟩, ⟨hq.1, hq.2.1, hq.2.2⟩, ⟨fun q hq => ?_, fun q x h1 h2 hx => ?_⟩⟩
    · by_cases y : to = 10
      · subst y
        simp (disch := omega) only [fX5_handOver, fX5_handOver_J18, ck1, bd1, bx1, bx2, aS_at, iS_at, upd_at, ↓reduceIte, Nat.reduceEqDiff, Nat.reduceAdd, Nat.reduceMul, Nat.reduceSub, Nat.reduceDiv, Nat.reduceLT, Nat.reduceLeDiff, Nat.reduceBEq, ne_eq, not_true_eq_false, not_false_eq_true, reduceCtorEq, if_true, if_false, eq_self, Nat.add_zero, Nat.zero_add, lit, lit_nn, I_nat, I_add, I_mul, I_sub, I_div, inb_t, I_ne, I_nn, nn_I, nn_lt, nn_le, lt_nn, le_nn, I_t, I_f, I_lt_t, I_lt_f, isb_0, isb_1, vz_0, vz_1, nn_nat, e7]
      · have y2 : to = g := by omega
        subst y2
        simp (disch := omega) only [fX5_handOver, fX5_handOver_J18, ck1, bd1, bx1, bx2, aS_at, iS_at, upd_at, ↓reduceIte, Nat.reduceEqDiff, Nat.reduceAdd, Nat.reduceMul, Nat.reduceSub, Nat.reduceDiv, Nat.reduceLT, Nat.reduceLeDiff, Nat.reduceBEq, ne_eq, not_true_eq_false, not_false_eq_true, reduceCtorEq, if_true, if_false, eq_self, Nat.add_zero, Nat.zero_add, lit, lit_nn, I_nat, I_add, I_mul, I_sub, I_div, inb_t, I_ne, I_nn, nn_I, nn_lt, nn_le, lt_nn, le_nn, I_t, I_f, I_lt_t, I_lt_f, isb_0, isb_1, vz_0, vz_1, nn_nat, e7]
    · simp (disch := omega) only [fX6_goesOut_J123, fX6_goesOut_J143, fX6_goesOut_J163, ck1, bd1, bx1, bx2, aS_at, iS_at, upd_at, ↓reduceIte, Nat.reduceEqDiff, Nat.reduceAdd, Nat.reduceMul, Nat.reduceSub, Nat.reduceDiv, Nat.reduceLT, Nat.reduceLeDiff, Nat.reduceBEq, ne_eq, not_true_eq_false, not_false_eq_true, reduceCtorEq, if_true, if_false, eq_self, Nat.add_zero, Nat.zero_add, lit, lit_nn, I_nat, I_add, I_mul, I_sub, I_div, inb_t, I_ne, I_nn, nn_I, nn_lt, nn_le, lt_nn, le_nn, I_t, I_f, I_lt_t, I_lt_f, isb_0, isb_1, vz_0, vz_1, nn_nat, add_I0, I01]
    · have u := c9.2 x hx
      simp (disch := omega) only [ck1, bd1, bx1, bx2, aS_at, iS_at, upd_at, ↓reduceIte, Nat.reduceEqDiff, Nat.reduceAdd, Nat.reduceMul, Nat.reduceSub, Nat.reduceDiv, Nat.reduceLT, Nat.reduceLeDiff, Nat.reduceBEq, ne_eq, not_true_eq_false, not_false_eq_true, reduceCtorEq, if_true, if_false, eq_self, Nat.add_zero, Nat.zero_add, lit, lit_nn, I_nat, I_add, I_mul, I_sub, I_div, inb_t, I_ne, I_nn, nn_I, nn_lt, nn_le, lt_nn, le_nn, I_t, I_f, I_lt_t, I_lt_f, isb_0, isb_1, vz_0, vz_1, nn_nat]
      by_cases d : x = g
      · subst d; simp only [↓reduceIte]; exact ⟨trivial, u.2⟩
      · simp only [d, ↓reduceIte]; exact u
    · simp only [aS_at]
      rw [if_neg (by omega), if_neg (by omega)]
    · simp only [aS_at]
      rw [if_neg (by omega), if_neg (by omega)]
  · rw [if_neg z]
    have z1 : ¬ to = 10 := fun e => z (Or.inl e)
    have z2 : ¬ to = g := fun e => z (Or.inr e)
    refine ⟨0, aS cs 8 (I g) (mm 30 g + I 1), aS (aS mm 29 (I g) (mm 29 g)) 30 (I g) (mm 30 g + I 1), by omega, ?_, ?_, ⟨p1, p2, p3, p4, p5, p6, p7, p8, p9, c1, c2, c3, c4, c5, c6, c7, c8, ⟨c9.1, fun x hx => ?_⟩, c10⟩, ⟨hq.1, hq.2.1, hq.2.2⟩, ⟨fun q hq => ?_, fun q x h1 h2 hx => ?_⟩⟩
    · simp (disch := omega) only [fX5_handOver, fX5_handOver_J18, ck1, bd1, bx1, bx2, aS_at, iS_at, upd_at, ↓reduceIte, Nat.reduceEqDiff, Nat.reduceAdd, Nat.reduceMul, Nat.reduceSub, Nat.reduceDiv, Nat.reduceLT, Nat.reduceLeDiff, Nat.reduceBEq, ne_eq, not_true_eq_false, not_false_eq_true, reduceCtorEq, if_true, if_false, eq_self, Nat.add_zero, Nat.zero_add, lit, lit_nn, I_nat, I_add, I_mul, I_sub, I_div, inb_t, I_ne, I_nn, nn_I, nn_lt, nn_le, lt_nn, le_nn, I_t, I_f, I_lt_t, I_lt_f, isb_0, isb_1, vz_0, vz_1, nn_nat, e8, I_inj, z1, z2]
    · simp (disch := omega) only [fX6_goesOut_J123, fX6_goesOut_J143, fX6_goesOut_J163, ck1, bd1, bx1, bx2, aS_at, iS_at, upd_at, ↓reduceIte, Nat.reduceEqDiff, Nat.reduceAdd, Nat.reduceMul, Nat.reduceSub, Nat.reduceDiv, Nat.reduceLT, Nat.reduceLeDiff, Nat.reduceBEq, ne_eq, not_true_eq_false, not_false_eq_true, reduceCtorEq, if_true, if_false, eq_self, Nat.add_zero, Nat.zero_add, lit, lit_nn, I_nat, I_add, I_mul, I_sub, I_div, inb_t, I_ne, I_nn, nn_I, nn_lt, nn_le, lt_nn, le_nn, I_t, I_f, I_lt_t, I_lt_f, isb_0, isb_1, vz_0, vz_1, nn_nat, add_I0, I01]
    · have u := c9.2 x hx
      simp (disch := omega) only [ck1, bd1, bx1, bx2, aS_at, iS_at, upd_at, ↓reduceIte, Nat.reduceEqDiff, Nat.reduceAdd, Nat.reduceMul, Nat.reduceSub, Nat.reduceDiv, Nat.reduceLT, Nat.reduceLeDiff, Nat.reduceBEq, ne_eq, not_true_eq_false, not_false_eq_true, reduceCtorEq, if_true, if_false, eq_self, Nat.add_zero, Nat.zero_add, lit, lit_nn, I_nat, I_add, I_mul, I_sub, I_div, inb_t, I_ne, I_nn, nn_I, nn_lt, nn_le, lt_nn, le_nn, I_t, I_f, I_lt_t, I_lt_f, isb_0, isb_1, vz_0, vz_1, nn_nat]
      by_cases d : x = g
      · subst d; simp only [↓reduceIte]; exact ⟨u.1, trivial⟩
      · simp only [d, ↓reduceIte]; exact u
    · simp only [aS_at]
      rw [if_neg (by omega), if_neg (by omega)]
    · simp only [aS_at]
      rw [if_neg (by omega), if_neg (by omega)]
set_option maxHeartbeats 1000000 in
theorem out_both {N n : Nat} {cs cw ct cl cb cp mm : St} (h : Rel N cs cw ct cl cb mm) (hq : Qu n cp mm) (hn : n < 2400) {k i l to : Nat} (hk : k < 30) (hi : i < n) (h4 : i < 400) (h1 : 1 ≤ l) (hl : l ≤ 3) (ht : to ≤ 10) : ∃ r n' cs' cp' mm', r < 2 ∧ n ≤ n' ∧ n' ≤ n + 1 ∧ fX5_goOut cs cw cl cp (I k) (I i) (I l) (I to) = some (I r, cs', cp') ∧ fX6_goesOut mm (I k) (I l) (mm 33 i) (mm 34 i) (I to) = some (I r, mm') ∧ Rel N cs' cw ct cl cb mm' ∧ Qu n' cp' mm' ∧ FQ n mm mm' := by
  obtain ⟨b, hb, b1, b2⟩ := carry_both h.2.2.2.2.1 h.2.2.2.2.2.2.2.2.2.2.2.2.2.1 hk h1 hl
  obtain ⟨p', t', e, o, a1, a2, a3, a4, d1, d2, d3, d4, d5, d6, d7, d8⟩ := hq.2.2 i hi h4
  rcases (show b = 0 ∨ b = 1 by omega) with rfl | rfl
  · refine ⟨0, n, cs, cp, mm, by omega, by omega, by omega, ?_, ?_, h, hq, FQ.refl _ _⟩
    · simp (disch := omega) only [fX5_goOut, b1, ck1, bd1, bx1, bx2, aS_at, iS_at, upd_at, ↓reduceIte, Nat.reduceEqDiff, Nat.reduceAdd, Nat.reduceMul, Nat.reduceSub, Nat.reduceDiv, Nat.reduceLT, Nat.reduceLeDiff, Nat.reduceBEq, ne_eq, not_true_eq_false, not_false_eq_true, reduceCtorEq, if_true, if_false, eq_self, Nat.add_zero, Nat.zero_add, lit, lit_nn, I_nat, I_add, I_mul, I_sub, I_div, inb_t, I_ne, I_nn, nn_I, nn_lt, nn_le, lt_nn, le_nn, I_t, I_f, I_lt_t, I_lt_f, isb_0, isb_1, vz_0, vz_1, nn_nat]
    · simp (disch := omega) only [fX6_goesOut, b2, ck1, bd1, bx1, bx2, aS_at, iS_at, upd_at, ↓reduceIte, Nat.reduceEqDiff, Nat.reduceAdd, Nat.reduceMul, Nat.reduceSub, Nat.reduceDiv, Nat.reduceLT, Nat.reduceLeDiff, Nat.reduceBEq, ne_eq, not_true_eq_false, not_false_eq_true, reduceCtorEq, if_true, if_false, eq_self, Nat.add_zero, Nat.zero_add, lit, lit_nn, I_nat, I_add, I_mul, I_sub, I_div, inb_t, I_ne, I_nn, nn_I, nn_lt, nn_le, lt_nn, le_nn, I_t, I_f, I_lt_t, I_lt_f, isb_0, isb_1, vz_0, vz_1, nn_nat]
  · obtain ⟨na, n1, n3, n9, ntag, nk'⟩ := out_tag h hk h1 hl b2
    have hw := h.2.2.2.2.2.2.2.2.2.2.1 k hk
    have hh := h.2.2.1.1 k hk
    rcases h.2.1 k hk with w | ⟨j, c, hj, w2, -⟩
    · have c0 := hw.1.trans w
      rcases hh with y | ⟨-, g, hg, y⟩
      · have c2 := hw.2.2.1.trans y
        refine ⟨0, n, cs, cp, mm, by omega, by omega, by omega, ?_, ?_, h, hq, FQ.refl _ _⟩
        · simp (disch := omega) only [fX5_goOut, fX5_handOver, b1, ck1, bd1, bx1, bx2, aS_at, iS_at, upd_at, ↓reduceIte, Nat.reduceEqDiff, Nat.reduceAdd, Nat.reduceMul, Nat.reduceSub, Nat.reduceDiv, Nat.reduceLT, Nat.reduceLeDiff, Nat.reduceBEq, ne_eq, not_true_eq_false, not_false_eq_true, reduceCtorEq, if_true, if_false, eq_self, Nat.add_zero, Nat.zero_add, lit, lit_nn, I_nat, I_add, I_mul, I_sub, I_div, inb_t, I_ne, I_nn, nn_I, nn_lt, nn_le, lt_nn, le_nn, I_t, I_f, I_lt_t, I_lt_f, isb_0, isb_1, vz_0, vz_1, nn_nat, c0, c2, I01]
        · rcases nk' with ⟨m7, -⟩ | m7
          · by_cases z : 12 ≤ o
            · simp (disch := omega) only [fX6_goesOut, fX6_goesOut_J34, fX6_goesOut_J35, b2, ck1, bd1, bx1, bx2, aS_at, iS_at, upd_at, ↓reduceIte, Nat.reduceEqDiff, Nat.reduceAdd, Nat.reduceMul, Nat.reduceSub, Nat.reduceDiv, Nat.reduceLT, Nat.reduceLeDiff, Nat.reduceBEq, ne_eq, not_true_eq_false, not_false_eq_true, reduceCtorEq, if_true, if_false, eq_self, Nat.add_zero, Nat.zero_add, lit, lit_nn, I_nat, I_add, I_mul, I_sub, I_div, inb_t, I_ne, I_nn, nn_I, nn_lt, nn_le, lt_nn, le_nn, I_t, I_f, I_lt_t, I_lt_f, isb_0, isb_1, vz_0, vz_1, nn_nat, m7, y, d8, w, I01]
            · simp (disch := omega) only [fX6_goesOut, fX6_goesOut_J34, fX6_goesOut_J35, b2, ck1, bd1, bx1, bx2, aS_at, iS_at, upd_at, ↓reduceIte, Nat.reduceEqDiff, Nat.reduceAdd, Nat.reduceMul, Nat.reduceSub, Nat.reduceDiv, Nat.reduceLT, Nat.reduceLeDiff, Nat.reduceBEq, ne_eq, not_true_eq_false, not_false_eq_true, reduceCtorEq, if_true, if_false, eq_self, Nat.add_zero, Nat.zero_add, lit, lit_nn, I_nat, I_add, I_mul, I_sub, I_div, inb_t, I_ne, I_nn, nn_I, nn_lt, nn_le, lt_nn, le_nn, I_t, I_f, I_lt_t, I_lt_f, isb_0, isb_1, vz_0, vz_1, nn_nat, m7, y, d8, w, I01]
          · by_cases z2 : l = na
            · subst z2
              by_cases z : 12 ≤ o
              · simp (disch := omega) only [fX6_goesOut, fX6_goesOut_J34, fX6_goesOut_J35, b2, ck1, bd1, bx1, bx2, aS_at, iS_at, upd_at, ↓reduceIte, Nat.reduceEqDiff, Nat.reduceAdd, Nat.reduceMul, Nat.reduceSub, Nat.reduceDiv, Nat.reduceLT, Nat.reduceLeDiff, Nat.reduceBEq, ne_eq, not_true_eq_false, not_false_eq_true, reduceCtorEq, if_true, if_false, eq_self, Nat.add_zero, Nat.zero_add, lit, lit_nn, I_nat, I_add, I_mul, I_sub, I_div, inb_t, I_ne, I_nn, nn_I, nn_lt, nn_le, lt_nn, le_nn, I_t, I_f, I_lt_t, I_lt_f, isb_0, isb_1, vz_0, vz_1, nn_nat, m7, n9, y, d8, w, I01]
              · simp (disch := omega) only [fX6_goesOut, fX6_goesOut_J34, fX6_goesOut_J35, b2, ck1, bd1, bx1, bx2, aS_at, iS_at, upd_at, ↓reduceIte, Nat.reduceEqDiff, Nat.reduceAdd, Nat.reduceMul, Nat.reduceSub, Nat.reduceDiv, Nat.reduceLT, Nat.reduceLeDiff, Nat.reduceBEq, ne_eq, not_true_eq_false, not_false_eq_true, reduceCtorEq, if_true, if_false, eq_self, Nat.add_zero, Nat.zero_add, lit, lit_nn, I_nat, I_add, I_mul, I_sub, I_div, inb_t, I_ne, I_nn, nn_I, nn_lt, nn_le, lt_nn, le_nn, I_t, I_f, I_lt_t, I_lt_f, isb_0, isb_1, vz_0, vz_1, nn_nat, m7, n9, y, d8, w, I01]
            · by_cases z : 12 ≤ o
              · simp (disch := omega) only [fX6_goesOut, fX6_goesOut_J34, fX6_goesOut_J35, b2, ck1, bd1, bx1, bx2, aS_at, iS_at, upd_at, ↓reduceIte, Nat.reduceEqDiff, Nat.reduceAdd, Nat.reduceMul, Nat.reduceSub, Nat.reduceDiv, Nat.reduceLT, Nat.reduceLeDiff, Nat.reduceBEq, ne_eq, not_true_eq_false, not_false_eq_true, reduceCtorEq, if_true, if_false, eq_self, Nat.add_zero, Nat.zero_add, lit, lit_nn, I_nat, I_add, I_mul, I_sub, I_div, inb_t, I_ne, I_nn, nn_I, nn_lt, nn_le, lt_nn, le_nn, I_t, I_f, I_lt_t, I_lt_f, isb_0, isb_1, vz_0, vz_1, nn_nat, m7, n9, y, d8, w, I01]
              · simp (disch := omega) only [fX6_goesOut, fX6_goesOut_J34, fX6_goesOut_J35, b2, ck1, bd1, bx1, bx2, aS_at, iS_at, upd_at, ↓reduceIte, Nat.reduceEqDiff, Nat.reduceAdd, Nat.reduceMul, Nat.reduceSub, Nat.reduceDiv, Nat.reduceLT, Nat.reduceLeDiff, Nat.reduceBEq, ne_eq, not_true_eq_false, not_false_eq_true, reduceCtorEq, if_true, if_false, eq_self, Nat.add_zero, Nat.zero_add, lit, lit_nn, I_nat, I_add, I_mul, I_sub, I_div, inb_t, I_ne, I_nn, nn_I, nn_lt, nn_le, lt_nn, le_nn, I_t, I_f, I_lt_t, I_lt_f, isb_0, isb_1, vz_0, vz_1, nn_nat, m7, n9, y, d8, w, I01]
      · have c2 := hw.2.2.1.trans y
        obtain ⟨r, cs', mm', hr, r1, r2, r3, r4, r5⟩ := hand_both h hq hg ht
        have yn : ¬ mm 5 k = nn := by rw [y, I_nn (by omega)]; exact id
        have ref35 : ∀ x, fX6_goesOut_J35 mm (I k) (I l) (mm 33 i) (mm 34 i) (I to) x = some (I r, mm') := by
          intro x
          rw [← r2]
          by_cases z1 : to = 10
          · subst z1
            rw [if_pos (Or.inl rfl)]
            simp (disch := omega) only [fX6_goesOut_J35, ck1, bd1, bx1, bx2, aS_at, iS_at, upd_at, ↓reduceIte, Nat.reduceEqDiff, Nat.reduceAdd, Nat.reduceMul, Nat.reduceSub, Nat.reduceDiv, Nat.reduceLT, Nat.reduceLeDiff, Nat.reduceBEq, ne_eq, not_true_eq_false, not_false_eq_true, reduceCtorEq, if_true, if_false, eq_self, Nat.add_zero, Nat.zero_add, lit, lit_nn, I_nat, I_add, I_mul, I_sub, I_div, inb_t, I_ne, I_nn, nn_I, nn_lt, nn_le, lt_nn, le_nn, I_t, I_f, I_lt_t, I_lt_f, isb_0, isb_1, vz_0, vz_1, nn_nat, y]
          · by_cases z2 : to = g
            · subst z2
              rw [if_pos (Or.inr rfl)]
              simp (disch := omega) only [fX6_goesOut_J35, ck1, bd1, bx1, bx2, aS_at, iS_at, upd_at, ↓reduceIte, Nat.reduceEqDiff, Nat.reduceAdd, Nat.reduceMul, Nat.reduceSub, Nat.reduceDiv, Nat.reduceLT, Nat.reduceLeDiff, Nat.reduceBEq, ne_eq, not_true_eq_false, not_false_eq_true, reduceCtorEq, if_true, if_false, eq_self, Nat.add_zero, Nat.zero_add, lit, lit_nn, I_nat, I_add, I_mul, I_sub, I_div, inb_t, I_ne, I_nn, nn_I, nn_lt, nn_le, lt_nn, le_nn, I_t, I_f, I_lt_t, I_lt_f, isb_0, isb_1, vz_0, vz_1, nn_nat, y]
            · rw [if_neg (fun e => e.elim z1 z2)]
              simp (disch := omega) only [fX6_goesOut_J35, ck1, bd1, bx1, bx2, aS_at, iS_at, upd_at, ↓reduceIte, Nat.reduceEqDiff, Nat.reduceAdd, Nat.reduceMul, Nat.reduceSub, Nat.reduceDiv, Nat.reduceLT, Nat.reduceLeDiff, Nat.reduceBEq, ne_eq, not_true_eq_false, not_false_eq_true, reduceCtorEq, if_true, if_false, eq_self, Nat.add_zero, Nat.zero_add, lit, lit_nn, I_nat, I_add, I_mul, I_sub, I_div, inb_t, I_ne, I_nn, nn_I, nn_lt, nn_le, lt_nn, le_nn, I_t, I_f, I_lt_t, I_lt_f, isb_0, isb_1, vz_0, vz_1, nn_nat, y]
        refine ⟨r, n, cs', cp, mm', hr, by omega, by omega, ?_, ?_, r3, r4, r5⟩
        · simp (disch := omega) only [fX5_goOut, b1, ck1, bd1, bx1, bx2, aS_at, iS_at, upd_at, ↓reduceIte, Nat.reduceEqDiff, Nat.reduceAdd, Nat.reduceMul, Nat.reduceSub, Nat.reduceDiv, Nat.reduceLT, Nat.reduceLeDiff, Nat.reduceBEq, ne_eq, not_true_eq_false, not_false_eq_true, reduceCtorEq, if_true, if_false, eq_self, Nat.add_zero, Nat.zero_add, lit, lit_nn, I_nat, I_add, I_mul, I_sub, I_div, inb_t, I_ne, I_nn, nn_I, nn_lt, nn_le, lt_nn, le_nn, I_t, I_f, I_lt_t, I_lt_f, isb_0, isb_1, vz_0, vz_1, nn_nat, c0, c2, r1, I01]
        · by_cases z7 : mm 7 k = I 0
          · simp (disch := omega) only [fX6_goesOut, fX6_goesOut_J34, b2, ck1, bd1, bx1, bx2, aS_at, iS_at, upd_at, ↓reduceIte, Nat.reduceEqDiff, Nat.reduceAdd, Nat.reduceMul, Nat.reduceSub, Nat.reduceDiv, Nat.reduceLT, Nat.reduceLeDiff, Nat.reduceBEq, ne_eq, not_true_eq_false, not_false_eq_true, reduceCtorEq, if_true, if_false, eq_self, Nat.add_zero, Nat.zero_add, lit, lit_nn, I_nat, I_add, I_mul, I_sub, I_div, inb_t, I_ne, I_nn, nn_I, nn_lt, nn_le, lt_nn, le_nn, I_t, I_f, I_lt_t, I_lt_f, isb_0, isb_1, vz_0, vz_1, nn_nat, z7, I01]
            exact ref35 _
          · by_cases z2 : l = na
            · subst z2
              simp (disch := omega) only [fX6_goesOut, fX6_goesOut_J34, b2, ck1, bd1, bx1, bx2, aS_at, iS_at, upd_at, ↓reduceIte, Nat.reduceEqDiff, Nat.reduceAdd, Nat.reduceMul, Nat.reduceSub, Nat.reduceDiv, Nat.reduceLT, Nat.reduceLeDiff, Nat.reduceBEq, ne_eq, not_true_eq_false, not_false_eq_true, reduceCtorEq, if_true, if_false, eq_self, Nat.add_zero, Nat.zero_add, lit, lit_nn, I_nat, I_add, I_mul, I_sub, I_div, inb_t, I_ne, I_nn, nn_I, nn_lt, nn_le, lt_nn, le_nn, I_t, I_f, I_lt_t, I_lt_f, isb_0, isb_1, vz_0, vz_1, nn_nat, z7, n9, I01]
              exact ref35 _
            · simp (disch := omega) only [fX6_goesOut, fX6_goesOut_J34, b2, ck1, bd1, bx1, bx2, aS_at, iS_at, upd_at, ↓reduceIte, Nat.reduceEqDiff, Nat.reduceAdd, Nat.reduceMul, Nat.reduceSub, Nat.reduceDiv, Nat.reduceLT, Nat.reduceLeDiff, Nat.reduceBEq, ne_eq, not_true_eq_false, not_false_eq_true, reduceCtorEq, if_true, if_false, eq_self, Nat.add_zero, Nat.zero_add, lit, lit_nn, I_nat, I_add, I_mul, I_sub, I_div, inb_t, I_ne, I_nn, nn_I, nn_lt, nn_le, lt_nn, le_nn, I_t, I_f, I_lt_t, I_lt_f, isb_0, isb_1, vz_0, vz_1, nn_nat, z7, n9, I01]
              exact ref35 _
    · have c0 := hw.1.trans w2
      have y : mm 5 k = nn := by
        rcases hh with y | ⟨y, -⟩
        · exact y
        · rw [w2, I_nn (by omega)] at y; exact False.elim y
      by_cases z : 12 ≤ o
      · refine ⟨0, n, cs, cp, mm, by omega, by omega, by omega, ?_, ?_, h, hq, FQ.refl _ _⟩
        · simp (disch := omega) only [fX5_goOut, b1, ck1, bd1, bx1, bx2, aS_at, iS_at, upd_at, ↓reduceIte, Nat.reduceEqDiff, Nat.reduceAdd, Nat.reduceMul, Nat.reduceSub, Nat.reduceDiv, Nat.reduceLT, Nat.reduceLeDiff, Nat.reduceBEq, ne_eq, not_true_eq_false, not_false_eq_true, reduceCtorEq, if_true, if_false, eq_self, Nat.add_zero, Nat.zero_add, lit, lit_nn, I_nat, I_add, I_mul, I_sub, I_div, inb_t, I_ne, I_nn, nn_I, nn_lt, nn_le, lt_nn, le_nn, I_t, I_f, I_lt_t, I_lt_f, isb_0, isb_1, vz_0, vz_1, nn_nat, c0, d7, I01]
        · rcases nk' with ⟨m7, -⟩ | m7
          · simp (disch := omega) only [fX6_goesOut, fX6_goesOut_J34, fX6_goesOut_J35, b2, ck1, bd1, bx1, bx2, aS_at, iS_at, upd_at, ↓reduceIte, Nat.reduceEqDiff, Nat.reduceAdd, Nat.reduceMul, Nat.reduceSub, Nat.reduceDiv, Nat.reduceLT, Nat.reduceLeDiff, Nat.reduceBEq, ne_eq, not_true_eq_false, not_false_eq_true, reduceCtorEq, if_true, if_false, eq_self, Nat.add_zero, Nat.zero_add, lit, lit_nn, I_nat, I_add, I_mul, I_sub, I_div, inb_t, I_ne, I_nn, nn_I, nn_lt, nn_le, lt_nn, le_nn, I_t, I_f, I_lt_t, I_lt_f, isb_0, isb_1, vz_0, vz_1, nn_nat, m7, y, d8, I01]
          · by_cases z2 : l = na
            · subst z2
              simp (disch := omega) only [fX6_goesOut, fX6_goesOut_J34, fX6_goesOut_J35, b2, ck1, bd1, bx1, bx2, aS_at, iS_at, upd_at, ↓reduceIte, Nat.reduceEqDiff, Nat.reduceAdd, Nat.reduceMul, Nat.reduceSub, Nat.reduceDiv, Nat.reduceLT, Nat.reduceLeDiff, Nat.reduceBEq, ne_eq, not_true_eq_false, not_false_eq_true, reduceCtorEq, if_true, if_false, eq_self, Nat.add_zero, Nat.zero_add, lit, lit_nn, I_nat, I_add, I_mul, I_sub, I_div, inb_t, I_ne, I_nn, nn_I, nn_lt, nn_le, lt_nn, le_nn, I_t, I_f, I_lt_t, I_lt_f, isb_0, isb_1, vz_0, vz_1, nn_nat, m7, n9, y, d8, I01]
            · simp (disch := omega) only [fX6_goesOut, fX6_goesOut_J34, fX6_goesOut_J35, b2, ck1, bd1, bx1, bx2, aS_at, iS_at, upd_at, ↓reduceIte, Nat.reduceEqDiff, Nat.reduceAdd, Nat.reduceMul, Nat.reduceSub, Nat.reduceDiv, Nat.reduceLT, Nat.reduceLeDiff, Nat.reduceBEq, ne_eq, not_true_eq_false, not_false_eq_true, reduceCtorEq, if_true, if_false, eq_self, Nat.add_zero, Nat.zero_add, lit, lit_nn, I_nat, I_add, I_mul, I_sub, I_div, inb_t, I_ne, I_nn, nn_I, nn_lt, nn_le, lt_nn, le_nn, I_t, I_f, I_lt_t, I_lt_f, isb_0, isb_1, vz_0, vz_1, nn_nat, m7, n9, y, d8, I01]
      · by_cases z2 : l = na
        · obtain ⟨cp', mm', q1, q2, q3, q4, q5, q6⟩ := queue_both hq hn hj a3 (show 0 ≤ 3 by omega) (show o + 1 ≤ 12 by omega)
          rw [if_pos z2] at ntag
          subst z2
          refine ⟨0, n + 1, cs, cp', mm', by omega, by omega, by omega, ?_, ?_, h.queue q4 q5 q6, q3, q4⟩
          · simp (disch := omega) only [fX5_goOut, b1, ck1, bd1, bx1, bx2, aS_at, iS_at, upd_at, ↓reduceIte, Nat.reduceEqDiff, Nat.reduceAdd, Nat.reduceMul, Nat.reduceSub, Nat.reduceDiv, Nat.reduceLT, Nat.reduceLeDiff, Nat.reduceBEq, ne_eq, not_true_eq_false, not_false_eq_true, reduceCtorEq, if_true, if_false, eq_self, Nat.add_zero, Nat.zero_add, lit, lit_nn, I_nat, I_add, I_mul, I_sub, I_div, inb_t, I_ne, I_nn, nn_I, nn_lt, nn_le, lt_nn, le_nn, I_t, I_f, I_lt_t, I_lt_f, isb_0, isb_1, vz_0, vz_1, nn_nat, c0, d5, d7, ntag, q1, I01]
          · rcases nk' with ⟨m7, -⟩ | m7
            · simp (disch := omega) only [fX6_goesOut, fX6_goesOut_J34, fX6_goesOut_J35, fX6_goesOut_J85, fX6_goesOut_J95, b2, ck1, bd1, bx1, bx2, aS_at, iS_at, upd_at, ↓reduceIte, Nat.reduceEqDiff, Nat.reduceAdd, Nat.reduceMul, Nat.reduceSub, Nat.reduceDiv, Nat.reduceLT, Nat.reduceLeDiff, Nat.reduceBEq, ne_eq, not_true_eq_false, not_false_eq_true, reduceCtorEq, if_true, if_false, eq_self, Nat.add_zero, Nat.zero_add, lit, lit_nn, I_nat, I_add, I_mul, I_sub, I_div, inb_t, I_ne, I_nn, nn_I, nn_lt, nn_le, lt_nn, le_nn, I_t, I_f, I_lt_t, I_lt_f, isb_0, isb_1, vz_0, vz_1, nn_nat, m7, y, d6, d8, w2, q2, I01]
            · simp (disch := omega) only [fX6_goesOut, fX6_goesOut_J34, fX6_goesOut_J35, fX6_goesOut_J85, fX6_goesOut_J95, b2, ck1, bd1, bx1, bx2, aS_at, iS_at, upd_at, ↓reduceIte, Nat.reduceEqDiff, Nat.reduceAdd, Nat.reduceMul, Nat.reduceSub, Nat.reduceDiv, Nat.reduceLT, Nat.reduceLeDiff, Nat.reduceBEq, ne_eq, not_true_eq_false, not_false_eq_true, reduceCtorEq, if_true, if_false, eq_self, Nat.add_zero, Nat.zero_add, lit, lit_nn, I_nat, I_add, I_mul, I_sub, I_div, inb_t, I_ne, I_nn, nn_I, nn_lt, nn_le, lt_nn, le_nn, I_t, I_f, I_lt_t, I_lt_f, isb_0, isb_1, vz_0, vz_1, nn_nat, m7, n9, y, d6, d8, w2, q2, I01]
        · obtain ⟨cp', mm', q1, q2, q3, q4, q5, q6⟩ := queue_both hq hn hj hl a3 (show o + 1 ≤ 12 by omega)
          rw [if_neg z2] at ntag
          refine ⟨0, n + 1, cs, cp', mm', by omega, by omega, by omega, ?_, ?_, h.queue q4 q5 q6, q3, q4⟩
          · simp (disch := omega) only [fX5_goOut, b1, ck1, bd1, bx1, bx2, aS_at, iS_at, upd_at, ↓reduceIte, Nat.reduceEqDiff, Nat.reduceAdd, Nat.reduceMul, Nat.reduceSub, Nat.reduceDiv, Nat.reduceLT, Nat.reduceLeDiff, Nat.reduceBEq, ne_eq, not_true_eq_false, not_false_eq_true, reduceCtorEq, if_true, if_false, eq_self, Nat.add_zero, Nat.zero_add, lit, lit_nn, I_nat, I_add, I_mul, I_sub, I_div, inb_t, I_ne, I_nn, nn_I, nn_lt, nn_le, lt_nn, le_nn, I_t, I_f, I_lt_t, I_lt_f, isb_0, isb_1, vz_0, vz_1, nn_nat, c0, d5, d7, ntag, q1, I01]
          · rcases nk' with ⟨-, m7⟩ | m7
            · exact absurd m7 z2
            · simp (disch := omega) only [fX6_goesOut, fX6_goesOut_J34, fX6_goesOut_J35, fX6_goesOut_J85, fX6_goesOut_J95, b2, ck1, bd1, bx1, bx2, aS_at, iS_at, upd_at, ↓reduceIte, Nat.reduceEqDiff, Nat.reduceAdd, Nat.reduceMul, Nat.reduceSub, Nat.reduceDiv, Nat.reduceLT, Nat.reduceLeDiff, Nat.reduceBEq, ne_eq, not_true_eq_false, not_false_eq_true, reduceCtorEq, if_true, if_false, eq_self, Nat.add_zero, Nat.zero_add, lit, lit_nn, I_nat, I_add, I_mul, I_sub, I_div, inb_t, I_ne, I_nn, nn_I, nn_lt, nn_le, lt_nn, le_nn, I_t, I_f, I_lt_t, I_lt_f, isb_0, isb_1, vz_0, vz_1, nn_nat, m7, n9, y, d6, d8, w2, q2, I01]

/-! ===== a frame is sent ===== -/
theorem send_loop {N : Nat} {cw cl : St} {g to : Nat} (hg : g < 10) (ht : to ≤ 10) : ∀ d x m r n (cs ct cb cp mm : St), x + d = 400 → d < m → n ≤ 1 + 5 * x → r ≤ 5 * x → Rel N cs cw ct cl cb mm → Qu n cp mm → ∃ r' cs' ct' cb' cp' mm', loopN (fun k a => fX5_send_S104 k cw cl (I g) (I to) (a.1) (a.2.1) (a.2.2.1) (a.2.2.2.1) (a.2.2.2.2.1) (a.2.2.2.2.2)) m (cs, ct, cb, cp, I r, I x) = some (.inl (I r', cs', ct', cb', cp')) ∧ loopN (fun k a => fX6_send_S138 k (I g) (I to) (a.1) (a.2.1) (a.2.2)) m (mm, I r, I x) = some (I r', mm') ∧ Rel N cs' cw ct' cl cb' mm' ∧ mm' 40 = mm 40 := by
  intro d
  induction d with
  | zero =>
    intro x m r n cs ct cb cp mm hx hm hn hr h hq
    obtain ⟨m, rfl⟩ : ∃ k, m = k + 1 := ⟨m - 1, by omega⟩
    have e : x = 400 := by omega
    subst e
    obtain ⟨q1, q2, q3⟩ := hq
    refine ⟨r, cs, ct, cb, cp, mm, ?_, ?_, h, rfl⟩
    · rw [loopN_s]
      generalize loopN (fun k a => fX5_send_S104 k cw cl (I g) (I to) (a.1) (a.2.1) (a.2.2.1) (a.2.2.2.1) (a.2.2.2.2.1) (a.2.2.2.2.2)) m = rec
      simp (disch := omega) only [fX5_send_S104, ck1, bd1, bx1, bx2, aS_at, iS_at, upd_at, ↓reduceIte, Nat.reduceEqDiff, Nat.reduceAdd, Nat.reduceMul, Nat.reduceSub, Nat.reduceDiv, Nat.reduceLT, Nat.reduceLeDiff, Nat.reduceBEq, ne_eq, not_true_eq_false, not_false_eq_true, reduceCtorEq, if_true, if_false, eq_self, Nat.add_zero, Nat.zero_add, lit, lit_nn, I_nat, I_add, I_mul, I_sub, I_div, inb_t, I_ne, I_nn, nn_I, nn_lt, nn_le, lt_nn, le_nn, I_t, I_f, I_lt_t, I_lt_f, isb_0, isb_1, vz_0, vz_1, nn_nat]
    · rw [loopN_s]
      generalize loopN (fun k a => fX6_send_S138 k (I g) (I to) (a.1) (a.2.1) (a.2.2)) m = rec
      by_cases z : n ≤ 400
      · simp (disch := omega) only [fX6_send_S138, ck1, bd1, bx1, bx2, aS_at, iS_at, upd_at, ↓reduceIte, Nat.reduceEqDiff, Nat.reduceAdd, Nat.reduceMul, Nat.reduceSub, Nat.reduceDiv, Nat.reduceLT, Nat.reduceLeDiff, Nat.reduceBEq, ne_eq, not_true_eq_false, not_false_eq_true, reduceCtorEq, if_true, if_false, eq_self, Nat.add_zero, Nat.zero_add, lit, lit_nn, I_nat, I_add, I_mul, I_sub, I_div, inb_t, I_ne, I_nn, nn_I, nn_lt, nn_le, lt_nn, le_nn, I_t, I_f, I_lt_t, I_lt_f, isb_0, isb_1, vz_0, vz_1, nn_nat, q1]
      · simp (disch := omega) only [fX6_send_S138, ck1, bd1, bx1, bx2, aS_at, iS_at, upd_at, ↓reduceIte, Nat.reduceEqDiff, Nat.reduceAdd, Nat.reduceMul, Nat.reduceSub, Nat.reduceDiv, Nat.reduceLT, Nat.reduceLeDiff, Nat.reduceBEq, ne_eq, not_true_eq_false, not_false_eq_true, reduceCtorEq, if_true, if_false, eq_self, Nat.add_zero, Nat.zero_add, lit, lit_nn, I_nat, I_add, I_mul, I_sub, I_div, inb_t, I_ne, I_nn, nn_I, nn_lt, nn_le, lt_nn, le_nn, I_t, I_f, I_lt_t, I_lt_f, isb_0, isb_1, vz_0, vz_1, nn_nat, q1]
  | succ d ih =>
    intro x m r n cs ct cb cp mm hx hm hn hr h hq
    obtain ⟨m, rfl⟩ : ∃ k, m = k + 1 := ⟨m - 1, by omega⟩
    obtain ⟨q1, q2, q3⟩ := id hq
    by_cases z : n ≤ x
    · rw [show min n 400 = n by omega] at q2
      refine ⟨r, cs, ct, cb, cp, mm, ?_, ?_, h, rfl⟩
      · rw [loopN_s]
        generalize loopN (fun k a => fX5_send_S104 k cw cl (I g) (I to) (a.1) (a.2.1) (a.2.2.1) (a.2.2.2.1) (a.2.2.2.2.1) (a.2.2.2.2.2)) m = rec
        simp (disch := omega) only [fX5_send_S104, ck1, bd1, bx1, bx2, aS_at, iS_at, upd_at, ↓reduceIte, Nat.reduceEqDiff, Nat.reduceAdd, Nat.reduceMul, Nat.reduceSub, Nat.reduceDiv, Nat.reduceLT, Nat.reduceLeDiff, Nat.reduceBEq, ne_eq, not_true_eq_false, not_false_eq_true, reduceCtorEq, if_true, if_false, eq_self, Nat.add_zero, Nat.zero_add, lit, lit_nn, I_nat, I_add, I_mul, I_sub, I_div, inb_t, I_ne, I_nn, nn_I, nn_lt, nn_le, lt_nn, le_nn, I_t, I_f, I_lt_t, I_lt_f, isb_0, isb_1, vz_0, vz_1, nn_nat, q2]
      · rw [loopN_s]
        generalize loopN (fun k a => fX6_send_S138 k (I g) (I to) (a.1) (a.2.1) (a.2.2)) m = rec
        simp (disch := omega) only [fX6_send_S138, ck1, bd1, bx1, bx2, aS_at, iS_at, upd_at, ↓reduceIte, Nat.reduceEqDiff, Nat.reduceAdd, Nat.reduceMul, Nat.reduceSub, Nat.reduceDiv, Nat.reduceLT, Nat.reduceLeDiff, Nat.reduceBEq, ne_eq, not_true_eq_false, not_false_eq_true, reduceCtorEq, if_true, if_false, eq_self, Nat.add_zero, Nat.zero_add, lit, lit_nn, I_nat, I_add, I_mul, I_sub, I_div, inb_t, I_ne, I_nn, nn_I, nn_lt, nn_le, lt_nn, le_nn, I_t, I_f, I_lt_t, I_lt_f, isb_0, isb_1, vz_0, vz_1, nn_nat, q1]
    · obtain ⟨r1, n', cs', ct', cb', cp', mm', a1, a2, a3, a4, a5, a6, a7, a8⟩ := step_both h hq (by omega) (show x < n by omega) (by omega) hg ht
      obtain ⟨r2, cs2, ct2, cb2, cp2, mm2, b1, b2, b3, b4⟩ := ih (x + 1) m (r + r1) n' cs' ct' cb' cp' mm' (by omega) (by omega) (by omega) (by omega) a6 a7
      have hmin : x < min n 400 := by omega
      have hmin4 : min n 400 ≤ 400 := by omega
      refine ⟨r2, cs2, ct2, cb2, cp2, mm2, ?_, ?_, b3, b4.trans a8⟩
      · rw [← b1, loopN_s]
        generalize loopN (fun k a => fX5_send_S104 k cw cl (I g) (I to) (a.1) (a.2.1) (a.2.2.1) (a.2.2.2.1) (a.2.2.2.2.1) (a.2.2.2.2.2)) m = rec
        simp (disch := omega) only [fX5_send_S104, ck1, bd1, bx1, bx2, aS_at, iS_at, upd_at, ↓reduceIte, Nat.reduceEqDiff, Nat.reduceAdd, Nat.reduceMul, Nat.reduceSub, Nat.reduceDiv, Nat.reduceLT, Nat.reduceLeDiff, Nat.reduceBEq, ne_eq, not_true_eq_false, not_false_eq_true, reduceCtorEq, if_true, if_false, eq_self, Nat.add_zero, Nat.zero_add, lit, lit_nn, I_nat, I_add, I_mul, I_sub, I_div, inb_t, I_ne, I_nn, nn_I, nn_lt, nn_le, lt_nn, le_nn, I_t, I_f, I_lt_t, I_lt_f, isb_0, isb_1, vz_0, vz_1, nn_nat, q2, a4]
      · rw [← b2, loopN_s]
        generalize loopN (fun k a => fX6_send_S138 k (I g) (I to) (a.1) (a.2.1) (a.2.2)) m = rec
        simp (disch := omega) only [fX6_send_S138, ck1, bd1, bx1, bx2, aS_at, iS_at, upd_at, ↓reduceIte, Nat.reduceEqDiff, Nat.reduceAdd, Nat.reduceMul, Nat.reduceSub, Nat.reduceDiv, Nat.reduceLT, Nat.reduceLeDiff, Nat.reduceBEq, ne_eq, not_true_eq_false, not_false_eq_true, reduceCtorEq, if_true, if_false, eq_self, Nat.add_zero, Nat.zero_add, lit, lit_nn, I_nat, I_add, I_mul, I_sub, I_div, inb_t, I_ne, I_nn, nn_I, nn_lt, nn_le, lt_nn, le_nn, I_t, I_f, I_lt_t, I_lt_f, isb_0, isb_1, vz_0, vz_1, nn_nat, q1, a5]
theorem queue_first {cp mm : St} {p t e : Nat} (hp : p < 30) (ht : t ≤ 3) (he : e ≤ 3) : ∃ cp' mm', fX1_add (iS cp 4 (I 0)) (I p) (I t) (I e) (I 0) = some cp' ∧ fX6_queues (iS mm 35 (I 0)) (I p) (I t) (I e) (I 0) = some mm' ∧ Qu 1 cp' mm' ∧ FQ 0 mm mm' ∧ mm' 29 = mm 29 ∧ mm' 30 = mm 30 := by
  obtain ⟨cp', mm', h1, h2, h3, h4, h5, h6⟩ := queue_both (n := 0) (cp := iS cp 4 (I 0)) (mm := iS mm 35 (I 0)) ⟨rfl, rfl, fun i hi => by omega⟩ (by omega) hp ht he (show 0 ≤ 12 by omega)
  refine ⟨cp', mm', h1, h2, h3, ⟨fun q hq => ?_, fun q x _ _ hx => by omega⟩, h5, h6⟩
  rw [h4.1 q hq, iS_at, if_neg (by omega)]
theorem send_go {N : Nat} {cs cw ct cl cb mm : St} (h : Rel N cs cw ct cl cb mm) (cp : St) {g to p t e : Nat} (hg : g < 10) (ht : to ≤ 10) (hp : p < 30) (htt : t ≤ 3) (he : e ≤ 3) (hc : cw 4 g = I p) : ∃ r cs' ct' cb' cp' mm', fX5_send_J51 cs cw ct cl cb cp (I g) (I to) (I t) (I e) = some (.inl (I r, cs', ct', cb', cp')) ∧ fX6_send_J109 mm (I g) (I to) (I t) (I e) (I p) (I 0) = some (I r, mm') ∧ Rel N cs' cw ct' cl cb' mm' ∧ mm' 40 0 = I 0 := by
  obtain ⟨cp1, m1, a1, a2, a3, a4, a5, a6⟩ := queue_first (cp := cp) (mm := iS mm 40 (I 0)) hp htt he
  have h0 : Rel N cs cw ct cl cb (iS mm 40 (I 0)) := h
  have h1 : Rel N cs cw ct cl cb m1 := h0.queue a4 a5 a6
  obtain ⟨r, cs', ct', cb', cp', mm', b1, b2, b3, b4⟩ := send_loop (cw := cw) (cl := cl) hg ht 400 0 1000 0 1 cs ct cb cp1 m1 (by omega) (by omega) (by omega) (by omega) h1 a3
  refine ⟨r, cs', ct', cb', cp', mm', ?_, ?_, b3, ?_⟩
  · refine Eq.trans ?_ b1
    simp (disch := omega) only [fX5_send_J51, fX1_restart, ck1, bd1, bx1, bx2, aS_at, iS_at, upd_at, ↓reduceIte, Nat.reduceEqDiff, Nat.reduceAdd, Nat.reduceMul, Nat.reduceSub, Nat.reduceDiv, Nat.reduceLT, Nat.reduceLeDiff, Nat.reduceBEq, ne_eq, not_true_eq_false, not_false_eq_true, reduceCtorEq, if_true, if_false, eq_self, Nat.add_zero, Nat.zero_add, lit, lit_nn, I_nat, I_add, I_mul, I_sub, I_div, inb_t, I_ne, I_nn, nn_I, nn_lt, nn_le, lt_nn, le_nn, I_t, I_f, I_lt_t, I_lt_f, isb_0, isb_1, vz_0, vz_1, nn_nat, hc]
    rw [a1, bd1]
    rfl
  · refine Eq.trans ?_ b2
    simp (disch := omega) only [fX6_send_J109, fails_0, ck1, bd1, bx1, bx2, aS_at, iS_at, upd_at, ↓reduceIte, Nat.reduceEqDiff, Nat.reduceAdd, Nat.reduceMul, Nat.reduceSub, Nat.reduceDiv, Nat.reduceLT, Nat.reduceLeDiff, Nat.reduceBEq, ne_eq, not_true_eq_false, not_false_eq_true, reduceCtorEq, if_true, if_false, eq_self, Nat.add_zero, Nat.zero_add, lit, lit_nn, I_nat, I_add, I_mul, I_sub, I_div, inb_t, I_ne, I_nn, nn_I, nn_lt, nn_le, lt_nn, le_nn, I_t, I_f, I_lt_t, I_lt_f, isb_0, isb_1, vz_0, vz_1, nn_nat]
    rw [a2, bd1]
    rfl
  · rw [b4, a4.1 40 (by omega)]
    rfl

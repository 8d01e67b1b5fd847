theorem i0_loop (b : St) : ∃ d : St, (∀ q, q ≠ 0 → q ≠ 1 → d q = b q) ∧ (∀ x, x < 30 → d 0 x = I 1 ∧ d 1 x = I 1) ∧ loopN (fun k a => fX0_init_S22 k (a.1) (a.2)) 1000 (b, I 0) = some d := by
  obtain ⟨Q, eQ⟩ : ∃ Q : Nat → St → Prop, Q = fun j d => (∀ q, q ≠ 0 → q ≠ 1 → d q = b q) ∧ (∀ x, x < j → d 0 x = I 1 ∧ d 1 x = I 1) := ⟨_, rfl⟩
  obtain ⟨d, hQ, hl⟩ := loop_up (step := fun k a => fX0_init_S22 k (a.1) (a.2)) (fun j (d : St) => (d, I j)) 30 Q (fun d => some d)
    (by
      intro j d hj hQ
      rw [eQ] at hQ
      obtain ⟨q1, q2⟩ := hQ
      refine ⟨aS (aS d 0 (I j) (I 1)) 1 (I j) (I 1), ?_, fun rec => ?_⟩
      · rw [eQ]
        refine ⟨fun q z0 z1 => ?_, fun x hx => ?_⟩
        · simp only [aS_at, z0, z1, ↓reduceIte]
          exact q1 q z0 z1
        · simp (disch := omega) only [ck1, bd1, bx1, bx2, aS_at, iS_at, upd_at, ↓reduceIte, Nat.reduceEqDiff, Nat.reduceAdd, Nat.reduceMul, Nat.reduceSub, Nat.reduceDiv, Nat.reduceLT, Nat.reduceLeDiff, Nat.reduceBEq, ne_eq, not_true_eq_false, not_false_eq_true, reduceCtorEq, if_true, if_false, eq_self, Nat.add_zero, Nat.zero_add, lit, lit_nn, I_nat, I_add, I_mul, I_sub, I_div, inb_t, I_ne, I_nn, nn_I, nn_lt, nn_le, lt_nn, le_nn, I_t, I_f, I_lt_t, I_lt_f, isb_0, isb_1, vz_0, vz_1, nn_nat]
          by_cases z : x = j
          · simp only [z, ↓reduceIte, and_self]
          · simp only [z, ↓reduceIte]
            exact q2 x (by omega)
      · simp (disch := omega) only [fX0_init_S22, ck1, bd1, bx1, bx2, aS_at, iS_at, upd_at, ↓reduceIte, Nat.reduceEqDiff, Nat.reduceAdd, Nat.reduceMul, Nat.reduceSub, Nat.reduceDiv, Nat.reduceLT, Nat.reduceLeDiff, Nat.reduceBEq, ne_eq, not_true_eq_false, not_false_eq_true, reduceCtorEq, if_true, if_false, eq_self, Nat.add_zero, Nat.zero_add, lit, lit_nn, I_nat, I_add, I_mul, I_sub, I_div, inb_t, I_ne, I_nn, nn_I, nn_lt, nn_le, lt_nn, le_nn, I_t, I_f, I_lt_t, I_lt_f, isb_0, isb_1, vz_0, vz_1, nn_nat])
    (by
      intro d _ rec
      simp (disch := omega) only [fX0_init_S22, ck1, bd1, bx1, bx2, aS_at, iS_at, upd_at, ↓reduceIte, Nat.reduceEqDiff, Nat.reduceAdd, Nat.reduceMul, Nat.reduceSub, Nat.reduceDiv, Nat.reduceLT, Nat.reduceLeDiff, Nat.reduceBEq, ne_eq, not_true_eq_false, not_false_eq_true, reduceCtorEq, if_true, if_false, eq_self, Nat.add_zero, Nat.zero_add, lit, lit_nn, I_nat, I_add, I_mul, I_sub, I_div, inb_t, I_ne, I_nn, nn_I, nn_lt, nn_le, lt_nn, le_nn, I_t, I_f, I_lt_t, I_lt_f, isb_0, isb_1, vz_0, vz_1, nn_nat])
    30 0 b 1000 (by omega) (by omega) (by rw [eQ]; exact ⟨fun _ _ _ => rfl, fun x hx => by omega⟩)
  rw [eQ] at hQ
  exact ⟨d, hQ.1, hQ.2, hl⟩
theorem i2_loop (b : St) : ∃ d : St, (∀ q, q ≠ 0 → d q = b q) ∧ (∀ x, x < 180 → d 0 x = nn) ∧ loopN (fun k a => fX2_init_S32 k (a.1) (a.2)) 1000 (b, I 0) = some d := by
  obtain ⟨Q, eQ⟩ : ∃ Q : Nat → St → Prop, Q = fun j d => (∀ q, q ≠ 0 → d q = b q) ∧ (∀ x, x < j → d 0 x = nn) := ⟨_, rfl⟩
  obtain ⟨d, hQ, hl⟩ := loop_up (step := fun k a => fX2_init_S32 k (a.1) (a.2)) (fun j (d : St) => (d, I j)) 180 Q (fun d => some d)
    (by
      intro j d hj hQ
      rw [eQ] at hQ
      obtain ⟨q1, q2⟩ := hQ
      refine ⟨aS d 0 (I j) (nn), ?_, fun rec => ?_⟩
      · rw [eQ]
        refine ⟨fun q z0 => ?_, fun x hx => ?_⟩
        · simp only [aS_at, z0, ↓reduceIte]
          exact q1 q z0
        · simp (disch := omega) only [ck1, bd1, bx1, bx2, aS_at, iS_at, upd_at, ↓reduceIte, Nat.reduceEqDiff, Nat.reduceAdd, Nat.reduceMul, Nat.reduceSub, Nat.reduceDiv, Nat.reduceLT, Nat.reduceLeDiff, Nat.reduceBEq, ne_eq, not_true_eq_false, not_false_eq_true, reduceCtorEq, if_true, if_false, eq_self, Nat.add_zero, Nat.zero_add, lit, lit_nn, I_nat, I_add, I_mul, I_sub, I_div, inb_t, I_ne, I_nn, nn_I, nn_lt, nn_le, lt_nn, le_nn, I_t, I_f, I_lt_t, I_lt_f, isb_0, isb_1, vz_0, vz_1, nn_nat]
          by_cases z : x = j
          · simp only [z, ↓reduceIte, and_self]
          · simp only [z, ↓reduceIte]
            exact q2 x (by omega)
      · simp (disch := omega) only [fX2_init_S32, ck1, bd1, bx1, bx2, aS_at, iS_at, upd_at, ↓reduceIte, Nat.reduceEqDiff, Nat.reduceAdd, Nat.reduceMul, Nat.reduceSub, Nat.reduceDiv, Nat.reduceLT, Nat.reduceLeDiff, Nat.reduceBEq, ne_eq, not_true_eq_false, not_false_eq_true, reduceCtorEq, if_true, if_false, eq_self, Nat.add_zero, Nat.zero_add, lit, lit_nn, I_nat, I_add, I_mul, I_sub, I_div, inb_t, I_ne, I_nn, nn_I, nn_lt, nn_le, lt_nn, le_nn, I_t, I_f, I_lt_t, I_lt_f, isb_0, isb_1, vz_0, vz_1, nn_nat])
    (by
      intro d _ rec
      simp (disch := omega) only [fX2_init_S32, ck1, bd1, bx1, bx2, aS_at, iS_at, upd_at, ↓reduceIte, Nat.reduceEqDiff, Nat.reduceAdd, Nat.reduceMul, Nat.reduceSub, Nat.reduceDiv, Nat.reduceLT, Nat.reduceLeDiff, Nat.reduceBEq, ne_eq, not_true_eq_false, not_false_eq_true, reduceCtorEq, if_true, if_false, eq_self, Nat.add_zero, Nat.zero_add, lit, lit_nn, I_nat, I_add, I_mul, I_sub, I_div, inb_t, I_ne, I_nn, nn_I, nn_lt, nn_le, lt_nn, le_nn, I_t, I_f, I_lt_t, I_lt_f, isb_0, isb_1, vz_0, vz_1, nn_nat])
    180 0 b 1000 (by omega) (by omega) (by rw [eQ]; exact ⟨fun _ _ => rfl, fun x hx => by omega⟩)
  rw [eQ] at hQ
  exact ⟨d, hQ.1, hQ.2, hl⟩
theorem i3_loop (b : St) : ∃ d : St, (∀ q, q ≠ 1 → q ≠ 4 → d q = b q) ∧ (∀ x, x < 6 → d 1 x = I x ∧ d 4 x = nn) ∧ loopN (fun k a => fX3_init_S123 k (a.1) (a.2)) 1000 (b, I 0) = some d := by
  obtain ⟨Q, eQ⟩ : ∃ Q : Nat → St → Prop, Q = fun j d => (∀ q, q ≠ 1 → q ≠ 4 → d q = b q) ∧ (∀ x, x < j → d 1 x = I x ∧ d 4 x = nn) := ⟨_, rfl⟩
  obtain ⟨d, hQ, hl⟩ := loop_up (step := fun k a => fX3_init_S123 k (a.1) (a.2)) (fun j (d : St) => (d, I j)) 6 Q (fun d => some d)
    (by
      intro j d hj hQ
      rw [eQ] at hQ
      obtain ⟨q1, q2⟩ := hQ
      refine ⟨aS (aS d 1 (I j) (I j)) 4 (I j) (nn), ?_, fun rec => ?_⟩
      · rw [eQ]
        refine ⟨fun q z0 z1 => ?_, fun x hx => ?_⟩
        · simp only [aS_at, z0, z1, ↓reduceIte]
          exact q1 q z0 z1
        · simp (disch := omega) only [ck1, bd1, bx1, bx2, aS_at, iS_at, upd_at, ↓reduceIte, Nat.reduceEqDiff, Nat.reduceAdd, Nat.reduceMul, Nat.reduceSub, Nat.reduceDiv, Nat.reduceLT, Nat.reduceLeDiff, Nat.reduceBEq, ne_eq, not_true_eq_false, not_false_eq_true, reduceCtorEq, if_true, if_false, eq_self, Nat.add_zero, Nat.zero_add, lit, lit_nn, I_nat, I_add, I_mul, I_sub, I_div, inb_t, I_ne, I_nn, nn_I, nn_lt, nn_le, lt_nn, le_nn, I_t, I_f, I_lt_t, I_lt_f, isb_0, isb_1, vz_0, vz_1, nn_nat]
          by_cases z : x = j
          · simp only [z, ↓reduceIte, and_self]
          · simp only [z, ↓reduceIte]
            exact q2 x (by omega)
      · simp (disch := omega) only [fX3_init_S123, ck1, bd1, bx1, bx2, aS_at, iS_at, upd_at, ↓reduceIte, Nat.reduceEqDiff, Nat.reduceAdd, Nat.reduceMul, Nat.reduceSub, Nat.reduceDiv, Nat.reduceLT, Nat.reduceLeDiff, Nat.reduceBEq, ne_eq, not_true_eq_false, not_false_eq_true, reduceCtorEq, if_true, if_false, eq_self, Nat.add_zero, Nat.zero_add, lit, lit_nn, I_nat, I_add, I_mul, I_sub, I_div, inb_t, I_ne, I_nn, nn_I, nn_lt, nn_le, lt_nn, le_nn, I_t, I_f, I_lt_t, I_lt_f, isb_0, isb_1, vz_0, vz_1, nn_nat])
    (by
      intro d _ rec
      simp (disch := omega) only [fX3_init_S123, ck1, bd1, bx1, bx2, aS_at, iS_at, upd_at, ↓reduceIte, Nat.reduceEqDiff, Nat.reduceAdd, Nat.reduceMul, Nat.reduceSub, Nat.reduceDiv, Nat.reduceLT, Nat.reduceLeDiff, Nat.reduceBEq, ne_eq, not_true_eq_false, not_false_eq_true, reduceCtorEq, if_true, if_false, eq_self, Nat.add_zero, Nat.zero_add, lit, lit_nn, I_nat, I_add, I_mul, I_sub, I_div, inb_t, I_ne, I_nn, nn_I, nn_lt, nn_le, lt_nn, le_nn, I_t, I_f, I_lt_t, I_lt_f, isb_0, isb_1, vz_0, vz_1, nn_nat])
    6 0 b 1000 (by omega) (by omega) (by rw [eQ]; exact ⟨fun _ _ _ => rfl, fun x hx => by omega⟩)
  rw [eQ] at hQ
  exact ⟨d, hQ.1, hQ.2, hl⟩
theorem i4c_loop (b : St) : ∃ d : St, (∀ q, q ≠ 5 → d q = b q) ∧ (∀ x, x < 6 → d 5 x = I 8) ∧ loopN (fun k a => fX4_init_S103 k (a.1) (a.2)) 1000 (b, I 0) = some d := by
  obtain ⟨Q, eQ⟩ : ∃ Q : Nat → St → Prop, Q = fun j d => (∀ q, q ≠ 5 → d q = b q) ∧ (∀ x, x < j → d 5 x = I 8) := ⟨_, rfl⟩
  obtain ⟨d, hQ, hl⟩ := loop_up (step := fun k a => fX4_init_S103 k (a.1) (a.2)) (fun j (d : St) => (d, I j)) 6 Q (fun d => some d)
    (by
      intro j d hj hQ
      rw [eQ] at hQ
      obtain ⟨q1, q2⟩ := hQ
      refine ⟨aS d 5 (I j) (I 8), ?_, fun rec => ?_⟩
      · rw [eQ]
        refine ⟨fun q z0 => ?_, fun x hx => ?_⟩
        · simp only [aS_at, z0, ↓reduceIte]
          exact q1 q z0
        · simp (disch := omega) only [ck1, bd1, bx1, bx2, aS_at, iS_at, upd_at, ↓reduceIte, Nat.reduceEqDiff, Nat.reduceAdd, Nat.reduceMul, Nat.reduceSub, Nat.reduceDiv, Nat.reduceLT, Nat.reduceLeDiff, Nat.reduceBEq, ne_eq, not_true_eq_false, not_false_eq_true, reduceCtorEq, if_true, if_false, eq_self, Nat.add_zero, Nat.zero_add, lit, lit_nn, I_nat, I_add, I_mul, I_sub, I_div, inb_t, I_ne, I_nn, nn_I, nn_lt, nn_le, lt_nn, le_nn, I_t, I_f, I_lt_t, I_lt_f, isb_0, isb_1, vz_0, vz_1, nn_nat]
          by_cases z : x = j
          · simp only [z, ↓reduceIte, and_self]
          · simp only [z, ↓reduceIte]
            exact q2 x (by omega)
      · simp (disch := omega) only [fX4_init_S103, ck1, bd1, bx1, bx2, aS_at, iS_at, upd_at, ↓reduceIte, Nat.reduceEqDiff, Nat.reduceAdd, Nat.reduceMul, Nat.reduceSub, Nat.reduceDiv, Nat.reduceLT, Nat.reduceLeDiff, Nat.reduceBEq, ne_eq, not_true_eq_false, not_false_eq_true, reduceCtorEq, if_true, if_false, eq_self, Nat.add_zero, Nat.zero_add, lit, lit_nn, I_nat, I_add, I_mul, I_sub, I_div, inb_t, I_ne, I_nn, nn_I, nn_lt, nn_le, lt_nn, le_nn, I_t, I_f, I_lt_t, I_lt_f, isb_0, isb_1, vz_0, vz_1, nn_nat])
    (by
      intro d _ rec
      simp (disch := omega) only [fX4_init_S103, ck1, bd1, bx1, bx2, aS_at, iS_at, upd_at, ↓reduceIte, Nat.reduceEqDiff, Nat.reduceAdd, Nat.reduceMul, Nat.reduceSub, Nat.reduceDiv, Nat.reduceLT, Nat.reduceLeDiff, Nat.reduceBEq, ne_eq, not_true_eq_false, not_false_eq_true, reduceCtorEq, if_true, if_false, eq_self, Nat.add_zero, Nat.zero_add, lit, lit_nn, I_nat, I_add, I_mul, I_sub, I_div, inb_t, I_ne, I_nn, nn_I, nn_lt, nn_le, lt_nn, le_nn, I_t, I_f, I_lt_t, I_lt_f, isb_0, isb_1, vz_0, vz_1, nn_nat])
    6 0 b 1000 (by omega) (by omega) (by rw [eQ]; exact ⟨fun _ _ => rfl, fun x hx => by omega⟩)
  rw [eQ] at hQ
  exact ⟨d, hQ.1, hQ.2, hl⟩
theorem i4b_loop (b : St) : ∃ d : St, (∀ q, q ≠ 4 → d q = b q) ∧ (∀ x, x < 10 → d 4 x = nn) ∧ loopN (fun k a => fX4_init_S82 k (a.1) (a.2)) 1000 (b, I 0) = fX4_init_J101 d := by
  obtain ⟨Q, eQ⟩ : ∃ Q : Nat → St → Prop, Q = fun j d => (∀ q, q ≠ 4 → d q = b q) ∧ (∀ x, x < j → d 4 x = nn) := ⟨_, rfl⟩
  obtain ⟨d, hQ, hl⟩ := loop_up (step := fun k a => fX4_init_S82 k (a.1) (a.2)) (fun j (d : St) => (d, I j)) 10 Q (fun d => fX4_init_J101 d)
    (by
      intro j d hj hQ
      rw [eQ] at hQ
      obtain ⟨q1, q2⟩ := hQ
      refine ⟨aS d 4 (I j) (nn), ?_, fun rec => ?_⟩
      · rw [eQ]
        refine ⟨fun q z0 => ?_, fun x hx => ?_⟩
        · simp only [aS_at, z0, ↓reduceIte]
          exact q1 q z0
        · simp (disch := omega) only [ck1, bd1, bx1, bx2, aS_at, iS_at, upd_at, ↓reduceIte, Nat.reduceEqDiff, Nat.reduceAdd, Nat.reduceMul, Nat.reduceSub, Nat.reduceDiv, Nat.reduceLT, Nat.reduceLeDiff, Nat.reduceBEq, ne_eq, not_true_eq_false, not_false_eq_true, reduceCtorEq, if_true, if_false, eq_self, Nat.add_zero, Nat.zero_add, lit, lit_nn, I_nat, I_add, I_mul, I_sub, I_div, inb_t, I_ne, I_nn, nn_I, nn_lt, nn_le, lt_nn, le_nn, I_t, I_f, I_lt_t, I_lt_f, isb_0, isb_1, vz_0, vz_1, nn_nat]
          by_cases z : x = j
          · simp only [z, ↓reduceIte, and_self]
          · simp only [z, ↓reduceIte]
            exact q2 x (by omega)
      · simp (disch := omega) only [fX4_init_S82, ck1, bd1, bx1, bx2, aS_at, iS_at, upd_at, ↓reduceIte, Nat.reduceEqDiff, Nat.reduceAdd, Nat.reduceMul, Nat.reduceSub, Nat.reduceDiv, Nat.reduceLT, Nat.reduceLeDiff, Nat.reduceBEq, ne_eq, not_true_eq_false, not_false_eq_true, reduceCtorEq, if_true, if_false, eq_self, Nat.add_zero, Nat.zero_add, lit, lit_nn, I_nat, I_add, I_mul, I_sub, I_div, inb_t, I_ne, I_nn, nn_I, nn_lt, nn_le, lt_nn, le_nn, I_t, I_f, I_lt_t, I_lt_f, isb_0, isb_1, vz_0, vz_1, nn_nat])
    (by
      intro d _ rec
      simp (disch := omega) only [fX4_init_S82, ck1, bd1, bx1, bx2, aS_at, iS_at, upd_at, ↓reduceIte, Nat.reduceEqDiff, Nat.reduceAdd, Nat.reduceMul, Nat.reduceSub, Nat.reduceDiv, Nat.reduceLT, Nat.reduceLeDiff, Nat.reduceBEq, ne_eq, not_true_eq_false, not_false_eq_true, reduceCtorEq, if_true, if_false, eq_self, Nat.add_zero, Nat.zero_add, lit, lit_nn, I_nat, I_add, I_mul, I_sub, I_div, inb_t, I_ne, I_nn, nn_I, nn_lt, nn_le, lt_nn, le_nn, I_t, I_f, I_lt_t, I_lt_f, isb_0, isb_1, vz_0, vz_1, nn_nat])
    10 0 b 1000 (by omega) (by omega) (by rw [eQ]; exact ⟨fun _ _ => rfl, fun x hx => by omega⟩)
  rw [eQ] at hQ
  exact ⟨d, hQ.1, hQ.2, hl⟩
theorem i4a_loop (b : St) : ∃ d : St, (∀ q, q ≠ 0 → q ≠ 2 → d q = b q) ∧ (∀ x, x < 30 → d 0 x = nn ∧ d 2 x = nn) ∧ loopN (fun k a => fX4_init_S54 k (a.1) (a.2)) 1000 (b, I 0) = fX4_init_J80 d := by
  obtain ⟨Q, eQ⟩ : ∃ Q : Nat → St → Prop, Q = fun j d => (∀ q, q ≠ 0 → q ≠ 2 → d q = b q) ∧ (∀ x, x < j → d 0 x = nn ∧ d 2 x = nn) := ⟨_, rfl⟩
  obtain ⟨d, hQ, hl⟩ := loop_up (step := fun k a => fX4_init_S54 k (a.1) (a.2)) (fun j (d : St) => (d, I j)) 30 Q (fun d => fX4_init_J80 d)
    (by
      intro j d hj hQ
      rw [eQ] at hQ
      obtain ⟨q1, q2⟩ := hQ
      refine ⟨aS (aS d 0 (I j) (nn)) 2 (I j) (nn), ?_, fun rec => ?_⟩
      · rw [eQ]
        refine ⟨fun q z0 z1 => ?_, fun x hx => ?_⟩
        · simp only [aS_at, z0, z1, ↓reduceIte]
          exact q1 q z0 z1
        · simp (disch := omega) only [ck1, bd1, bx1, bx2, aS_at, iS_at, upd_at, ↓reduceIte, Nat.reduceEqDiff, Nat.reduceAdd, Nat.reduceMul, Nat.reduceSub, Nat.reduceDiv, Nat.reduceLT, Nat.reduceLeDiff, Nat.reduceBEq, ne_eq, not_true_eq_false, not_false_eq_true, reduceCtorEq, if_true, if_false, eq_self, Nat.add_zero, Nat.zero_add, lit, lit_nn, I_nat, I_add, I_mul, I_sub, I_div, inb_t, I_ne, I_nn, nn_I, nn_lt, nn_le, lt_nn, le_nn, I_t, I_f, I_lt_t, I_lt_f, isb_0, isb_1, vz_0, vz_1, nn_nat]
          by_cases z : x = j
          · simp only [z, ↓reduceIte, and_self]
          · simp only [z, ↓reduceIte]
            exact q2 x (by omega)
      · simp (disch := omega) only [fX4_init_S54, ck1, bd1, bx1, bx2, aS_at, iS_at, upd_at, ↓reduceIte, Nat.reduceEqDiff, Nat.reduceAdd, Nat.reduceMul, Nat.reduceSub, Nat.reduceDiv, Nat.reduceLT, Nat.reduceLeDiff, Nat.reduceBEq, ne_eq, not_true_eq_false, not_false_eq_true, reduceCtorEq, if_true, if_false, eq_self, Nat.add_zero, Nat.zero_add, lit, lit_nn, I_nat, I_add, I_mul, I_sub, I_div, inb_t, I_ne, I_nn, nn_I, nn_lt, nn_le, lt_nn, le_nn, I_t, I_f, I_lt_t, I_lt_f, isb_0, isb_1, vz_0, vz_1, nn_nat])
    (by
      intro d _ rec
      simp (disch := omega) only [fX4_init_S54, ck1, bd1, bx1, bx2, aS_at, iS_at, upd_at, ↓reduceIte, Nat.reduceEqDiff, Nat.reduceAdd, Nat.reduceMul, Nat.reduceSub, Nat.reduceDiv, Nat.reduceLT, Nat.reduceLeDiff, Nat.reduceBEq, ne_eq, not_true_eq_false, not_false_eq_true, reduceCtorEq, if_true, if_false, eq_self, Nat.add_zero, Nat.zero_add, lit, lit_nn, I_nat, I_add, I_mul, I_sub, I_div, inb_t, I_ne, I_nn, nn_I, nn_lt, nn_le, lt_nn, le_nn, I_t, I_f, I_lt_t, I_lt_f, isb_0, isb_1, vz_0, vz_1, nn_nat])
    30 0 b 1000 (by omega) (by omega) (by rw [eQ]; exact ⟨fun _ _ _ => rfl, fun x hx => by omega⟩)
  rw [eQ] at hQ
  exact ⟨d, hQ.1, hQ.2, hl⟩
theorem i6b_loop (b : St) : ∃ d : St, (∀ q, q ≠ 3 → q ≠ 5 → q ≠ 8 → q ≠ 9 → d q = b q) ∧ (∀ x, x < 30 → d 3 x = nn ∧ d 5 x = nn ∧ d 8 x = I 7 ∧ d 9 x = I 1) ∧ loopN (fun k a => fX6_init_S349 k (a.1) (a.2)) 1000 (b, I 0) = some d := by
  obtain ⟨Q, eQ⟩ : ∃ Q : Nat → St → Prop, Q = fun j d => (∀ q, q ≠ 3 → q ≠ 5 → q ≠ 8 → q ≠ 9 → d q = b q) ∧ (∀ x, x < j → d 3 x = nn ∧ d 5 x = nn ∧ d 8 x = I 7 ∧ d 9 x = I 1) := ⟨_, rfl⟩
  obtain ⟨d, hQ, hl⟩ := loop_up (step := fun k a => fX6_init_S349 k (a.1) (a.2)) (fun j (d : St) => (d, I j)) 30 Q (fun d => some d)
    (by
      intro j d hj hQ
      rw [eQ] at hQ
      obtain ⟨q1, q2⟩ := hQ
      refine ⟨aS (aS (aS (aS d 3 (I j) (nn)) 5 (I j) (nn)) 8 (I j) (I 7)) 9 (I j) (I 1), ?_, fun rec => ?_⟩
      · rw [eQ]
        refine ⟨fun q z0 z1 z2 z3 => ?_, fun x hx => ?_⟩
        · simp only [aS_at, z0, z1, z2, z3, ↓reduceIte]
          exact q1 q z0 z1 z2 z3
        · simp (disch := omega) only [ck1, bd1, bx1, bx2, aS_at, iS_at, upd_at, ↓reduceIte, Nat.reduceEqDiff, Nat.reduceAdd, Nat.reduceMul, Nat.reduceSub, Nat.reduceDiv, Nat.reduceLT, Nat.reduceLeDiff, Nat.reduceBEq, ne_eq, not_true_eq_false, not_false_eq_true, reduceCtorEq, if_true, if_false, eq_self, Nat.add_zero, Nat.zero_add, lit, lit_nn, I_nat, I_add, I_mul, I_sub, I_div, inb_t, I_ne, I_nn, nn_I, nn_lt, nn_le, lt_nn, le_nn, I_t, I_f, I_lt_t, I_lt_f, isb_0, isb_1, vz_0, vz_1, nn_nat]
          by_cases z : x = j
          · simp only [z, ↓reduceIte, and_self]
          · simp only [z, ↓reduceIte]
            exact q2 x (by omega)
      · simp (disch := omega) only [fX6_init_S349, ck1, bd1, bx1, bx2, aS_at, iS_at, upd_at, ↓reduceIte, Nat.reduceEqDiff, Nat.reduceAdd, Nat.reduceMul, Nat.reduceSub, Nat.reduceDiv, Nat.reduceLT, Nat.reduceLeDiff, Nat.reduceBEq, ne_eq, not_true_eq_false, not_false_eq_true, reduceCtorEq, if_true, if_false, eq_self, Nat.add_zero, Nat.zero_add, lit, lit_nn, I_nat, I_add, I_mul, I_sub, I_div, inb_t, I_ne, I_nn, nn_I, nn_lt, nn_le, lt_nn, le_nn, I_t, I_f, I_lt_t, I_lt_f, isb_0, isb_1, vz_0, vz_1, nn_nat])
    (by
      intro d _ rec
      simp (disch := omega) only [fX6_init_S349, ck1, bd1, bx1, bx2, aS_at, iS_at, upd_at, ↓reduceIte, Nat.reduceEqDiff, Nat.reduceAdd, Nat.reduceMul, Nat.reduceSub, Nat.reduceDiv, Nat.reduceLT, Nat.reduceLeDiff, Nat.reduceBEq, ne_eq, not_true_eq_false, not_false_eq_true, reduceCtorEq, if_true, if_false, eq_self, Nat.add_zero, Nat.zero_add, lit, lit_nn, I_nat, I_add, I_mul, I_sub, I_div, inb_t, I_ne, I_nn, nn_I, nn_lt, nn_le, lt_nn, le_nn, I_t, I_f, I_lt_t, I_lt_f, isb_0, isb_1, vz_0, vz_1, nn_nat])
    30 0 b 1000 (by omega) (by omega) (by rw [eQ]; exact ⟨fun _ _ _ _ _ => rfl, fun x hx => by omega⟩)
  rw [eQ] at hQ
  exact ⟨d, hQ.1, hQ.2, hl⟩
theorem i6a_loop (b : St) : ∃ d : St, (∀ q, q ≠ 2 → q ≠ 16 → q ≠ 19 → d q = b q) ∧ (∀ x, x < 6 → d 2 x = I 8 ∧ d 16 x = I x ∧ d 19 x = nn) ∧ loopN (fun k a => fX6_init_S313 k (a.1) (a.2)) 1000 (b, I 0) = fX6_init_J347 d := by
  obtain ⟨Q, eQ⟩ : ∃ Q : Nat → St → Prop, Q = fun j d => (∀ q, q ≠ 2 → q ≠ 16 → q ≠ 19 → d q = b q) ∧ (∀ x, x < j → d 2 x = I 8 ∧ d 16 x = I x ∧ d 19 x = nn) := ⟨_, rfl⟩
  obtain ⟨d, hQ, hl⟩ := loop_up (step := fun k a => fX6_init_S313 k (a.1) (a.2)) (fun j (d : St) => (d, I j)) 6 Q (fun d => fX6_init_J347 d)
    (by
      intro j d hj hQ
      rw [eQ] at hQ
      obtain ⟨q1, q2⟩ := hQ
      refine ⟨aS (aS (aS d 2 (I j) (I 8)) 16 (I j) (I j)) 19 (I j) (nn), ?_, fun rec => ?_⟩
      · rw [eQ]
        refine ⟨fun q z0 z1 z2 => ?_, fun x hx => ?_⟩
        · simp only [aS_at, z0, z1, z2, ↓reduceIte]
          exact q1 q z0 z1 z2
        · simp (disch := omega) only [ck1, bd1, bx1, bx2, aS_at, iS_at, upd_at, ↓reduceIte, Nat.reduceEqDiff, Nat.reduceAdd, Nat.reduceMul, Nat.reduceSub, Nat.reduceDiv, Nat.reduceLT, Nat.reduceLeDiff, Nat.reduceBEq, ne_eq, not_true_eq_false, not_false_eq_true, reduceCtorEq, if_true, if_false, eq_self, Nat.add_zero, Nat.zero_add, lit, lit_nn, I_nat, I_add, I_mul, I_sub, I_div, inb_t, I_ne, I_nn, nn_I, nn_lt, nn_le, lt_nn, le_nn, I_t, I_f, I_lt_t, I_lt_f, isb_0, isb_1, vz_0, vz_1, nn_nat]
          by_cases z : x = j
          · simp only [z, ↓reduceIte, and_self]
          · simp only [z, ↓reduceIte]
            exact q2 x (by omega)
      · simp (disch := omega) only [fX6_init_S313, ck1, bd1, bx1, bx2, aS_at, iS_at, upd_at, ↓reduceIte, Nat.reduceEqDiff, Nat.reduceAdd, Nat.reduceMul, Nat.reduceSub, Nat.reduceDiv, Nat.reduceLT, Nat.reduceLeDiff, Nat.reduceBEq, ne_eq, not_true_eq_false, not_false_eq_true, reduceCtorEq, if_true, if_false, eq_self, Nat.add_zero, Nat.zero_add, lit, lit_nn, I_nat, I_add, I_mul, I_sub, I_div, inb_t, I_ne, I_nn, nn_I, nn_lt, nn_le, lt_nn, le_nn, I_t, I_f, I_lt_t, I_lt_f, isb_0, isb_1, vz_0, vz_1, nn_nat])
    (by
      intro d _ rec
      simp (disch := omega) only [fX6_init_S313, ck1, bd1, bx1, bx2, aS_at, iS_at, upd_at, ↓reduceIte, Nat.reduceEqDiff, Nat.reduceAdd, Nat.reduceMul, Nat.reduceSub, Nat.reduceDiv, Nat.reduceLT, Nat.reduceLeDiff, Nat.reduceBEq, ne_eq, not_true_eq_false, not_false_eq_true, reduceCtorEq, if_true, if_false, eq_self, Nat.add_zero, Nat.zero_add, lit, lit_nn, I_nat, I_add, I_mul, I_sub, I_div, inb_t, I_ne, I_nn, nn_I, nn_lt, nn_le, lt_nn, le_nn, I_t, I_f, I_lt_t, I_lt_f, isb_0, isb_1, vz_0, vz_1, nn_nat])
    6 0 b 1000 (by omega) (by omega) (by rw [eQ]; exact ⟨fun _ _ _ _ => rfl, fun x hx => by omega⟩)
  rw [eQ] at hQ
  exact ⟨d, hQ.1, hQ.2, hl⟩

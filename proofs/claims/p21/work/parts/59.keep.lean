/-! ===== what is kept, and comes back ===== -/
/-- the state m, but for the row in which things are kept -/
def Kp (T : Nat → Int32) (t : Nat) (a m : St) : Prop := (∀ q, q ≠ 36 → m q = a q) ∧ ∀ y, y < t → m 36 y = T y
theorem keep_gen {a : St} {T : Nat → Int32} {n t z : Nat} (hn : n < 1000) (ht : t + n ≤ 600) (hT : ∀ x, x < n → T (t + x) = a z x) {step : ((St × Int32) → Option St) → (St × Int32) → Option St}
    (hb : ∀ m x, x < n → (∀ q, q ≠ 36 → m q = a q) → ∀ rec, step rec (m, I x) = rec (aS m 36 (I (t + x)) (a z x), I (x + 1)))
    (he : ∀ m rec, step rec (m, I n) = some m) {m : St} (h : Kp T t a m) : ∃ m', loopN step 1000 (m, I 0) = some m' ∧ Kp T (t + n) a m' := by
  obtain ⟨s, ⟨u1, u2⟩, hl⟩ := loop_up (σ := St) (step := step) (fun k s => (s, I k)) n (fun k s => (∀ q, q ≠ 36 → s q = a q) ∧ ∀ y, y < t + k → s 36 y = T y) (fun s => some s)
    (by
      intro k s hk ⟨u1, u2⟩
      refine ⟨aS s 36 (I (t + k)) (a z k), ⟨fun q hq => ?_, fun y hy => ?_⟩, fun rec => hb s k hk u1 rec⟩
      · rw [aS_at, if_neg hq]; exact u1 q hq
      · simp (disch := omega) only [ck1, bd1, bx1, bx2, aS_at, iS_at, upd_at, ↓reduceIte, Nat.reduceEqDiff, Nat.reduceAdd, Nat.reduceMul, Nat.reduceSub, Nat.reduceDiv, Nat.reduceLT, Nat.reduceLeDiff, Nat.reduceBEq, ne_eq, not_true_eq_false, not_false_eq_true, reduceCtorEq, if_true, if_false, eq_self, Nat.add_zero, Nat.zero_add, lit, lit_nn, I_nat, I_add, I_mul, I_sub, I_div, inb_t, I_ne, I_nn, nn_I, nn_lt, nn_le, lt_nn, le_nn, I_t, I_f, I_lt_t, I_lt_f, isb_0, isb_1, vz_0, vz_1, nn_nat]
        by_cases d : y = t + k
        · rw [if_pos d, d, hT k hk]
        · rw [if_neg d]; exact u2 y (by omega))
    (fun s _ rec => he s rec)
    n 0 m 1000 (by omega) (by omega) ⟨h.1, fun y hy => h.2 y (by omega)⟩
  exact ⟨s, hl, u1, u2⟩
theorem back_gen {n t z : Nat} (hn : n < 1000) (ht : t + n ≤ 600) (hz : z ≠ 36) {step : ((St × Int32) → Option St) → (St × Int32) → Option St}
    (hb : ∀ m x, x < n → ∀ rec, step rec (m, I x) = rec (aS m z (I x) (m 36 (t + x)), I (x + 1)))
    (he : ∀ m rec, step rec (m, I n) = some m) (m : St) : ∃ f, loopN step 1000 (m, I 0) = some (pF m z f) ∧ ∀ x, x < n → f x = m 36 (t + x) := by
  obtain ⟨f, u1, hl⟩ := loop_up (σ := Nat → Int32) (step := step) (fun k f => (pF m z f, I k)) n (fun k f => ∀ x, x < k → f x = m 36 (t + x)) (fun f => some (pF m z f))
    (by
      intro k f hk u
      refine ⟨upd f k (m 36 (t + k)), fun x hx => ?_, fun rec => ?_⟩
      · rw [upd_at]
        by_cases d : x = k
        · rw [if_pos d, d]
        · rw [if_neg d]; exact u x (by omega)
      · rw [hb _ k hk rec, aS_pF, I_nat (by omega), pF_at, if_neg (Ne.symm hz)])
    (fun s _ rec => he _ rec)
    n 0 (m z) 1000 (by omega) (by omega) (fun x hx => by omega)
  rw [pF_self] at hl
  exact ⟨f, hl, u1⟩
theorem like_gen {n t z : Nat} {m : St} (hn : n < 1000) (ht : t + n ≤ 600) {step : ((Int32 × Int32) → Option Int32) → (Int32 × Int32) → Option Int32}
    (h0 : ∀ x, x < n → ∀ rec, step rec (I 0, I x) = rec (I 0, I (x + 1)))
    (h1 : ∀ x, x < n → m z x = m 36 (t + x) → ∀ rec, step rec (I 1, I x) = rec (I 1, I (x + 1)))
    (h2 : ∀ x, x < n → m z x ≠ m 36 (t + x) → ∀ rec, step rec (I 1, I x) = rec (I 0, I (x + 1)))
    (he : ∀ b, b < 2 → ∀ rec, step rec (I b, I n) = some (I b)) : ∃ b, b < 2 ∧ loopN step 1000 (I 1, I 0) = some (I b) ∧ (b = 1 ↔ ∀ x, x < n → m z x = m 36 (t + x)) := by
  obtain ⟨b, ⟨u1, u2⟩, hl⟩ := loop_up (σ := Nat) (step := step) (fun k b => (I b, I k)) n (fun k b => b < 2 ∧ (b = 1 ↔ ∀ x, x < k → m z x = m 36 (t + x))) (fun b => some (I b))
    (by
      intro k b hk ⟨u1, u2⟩
      rcases (show b = 0 ∨ b = 1 by omega) with rfl | rfl
      · refine ⟨0, ⟨by omega, ?_⟩, h0 k hk⟩
        constructor
        · intro e; omega
        · intro e; exact u2.mpr fun x hx => e x (by omega)
      · have w := u2.mp rfl
        by_cases d : m z k = m 36 (t + k)
        · refine ⟨1, ⟨by omega, fun _ x hx => ?_, fun _ => rfl⟩, h1 k hk d⟩
          by_cases e : x = k
          · rw [e]; exact d
          · exact w x (by omega)
        · refine ⟨0, ⟨by omega, ?_⟩, h2 k hk d⟩
          constructor
          · intro e; omega
          · intro e; exact absurd (e k (by omega)) d)
    (fun b hb rec => he b hb.1 rec)
    n 0 1 1000 (by omega) (by omega) ⟨by omega, fun _ x hx => by omega, fun _ => rfl⟩
  exact ⟨b, u1, hl, u2⟩
theorem keeps_16 {a m : St} {T : Nat → Int32} (hT : ∀ x, x < 6 → T (0 + x) = a 16 x) (h : Kp T 0 a m) : ∃ m', fX6_keeps_k15 m (I 0) = some m' ∧ Kp T 6 a m' := by
  have h := keep_gen (z := 16) (n := 6) (t := 0) (step := fun k a => fX6_keeps_k15_S2 k (I 0) (a.1) (a.2)) (by omega) (by omega) hT (fun m x hx hm rec => by
    rw [← hm 16 (by omega)]
    simp (disch := omega) only [fX6_keeps_k15_S2, ck1, bd1, bx1, bx2, aS_at, iS_at, upd_at, ↓reduceIte, Nat.reduceEqDiff, Nat.reduceAdd, Nat.reduceMul, Nat.reduceSub, Nat.reduceDiv, Nat.reduceLT, Nat.reduceLeDiff, Nat.reduceBEq, ne_eq, not_true_eq_false, not_false_eq_true, reduceCtorEq, if_true, if_false, eq_self, Nat.add_zero, Nat.zero_add, lit, lit_nn, I_nat, I_add, I_mul, I_sub, I_div, inb_t, I_ne, I_nn, nn_I, nn_lt, nn_le, lt_nn, le_nn, I_t, I_f, I_lt_t, I_lt_f, isb_0, isb_1, vz_0, vz_1, nn_nat]) (fun m rec => by
    simp (disch := omega) only [fX6_keeps_k15_S2, ck1, bd1, bx1, bx2, aS_at, iS_at, upd_at, ↓reduceIte, Nat.reduceEqDiff, Nat.reduceAdd, Nat.reduceMul, Nat.reduceSub, Nat.reduceDiv, Nat.reduceLT, Nat.reduceLeDiff, Nat.reduceBEq, ne_eq, not_true_eq_false, not_false_eq_true, reduceCtorEq, if_true, if_false, eq_self, Nat.add_zero, Nat.zero_add, lit, lit_nn, I_nat, I_add, I_mul, I_sub, I_div, inb_t, I_ne, I_nn, nn_I, nn_lt, nn_le, lt_nn, le_nn, I_t, I_f, I_lt_t, I_lt_f, isb_0, isb_1, vz_0, vz_1, nn_nat]) h
  unfold fX6_keeps_k15 fX6_keeps_k15_L2
  rw [lit]
  exact h
theorem back_16 (m : St) : ∃ f, fX6_back_k15 m (I 0) = some (pF m 16 f) ∧ ∀ x, x < 6 → f x = m 36 (0 + x) := by
  have h := back_gen (z := 16) (n := 6) (t := 0) (step := fun k a => fX6_back_k15_S2 k (I 0) (a.1) (a.2)) (by omega) (by omega) (by omega) (fun m x hx rec => by
    simp (disch := omega) only [fX6_back_k15_S2, ck1, bd1, bx1, bx2, aS_at, iS_at, upd_at, ↓reduceIte, Nat.reduceEqDiff, Nat.reduceAdd, Nat.reduceMul, Nat.reduceSub, Nat.reduceDiv, Nat.reduceLT, Nat.reduceLeDiff, Nat.reduceBEq, ne_eq, not_true_eq_false, not_false_eq_true, reduceCtorEq, if_true, if_false, eq_self, Nat.add_zero, Nat.zero_add, lit, lit_nn, I_nat, I_add, I_mul, I_sub, I_div, inb_t, I_ne, I_nn, nn_I, nn_lt, nn_le, lt_nn, le_nn, I_t, I_f, I_lt_t, I_lt_f, isb_0, isb_1, vz_0, vz_1, nn_nat]) (fun m rec => by
    simp (disch := omega) only [fX6_back_k15_S2, ck1, bd1, bx1, bx2, aS_at, iS_at, upd_at, ↓reduceIte, Nat.reduceEqDiff, Nat.reduceAdd, Nat.reduceMul, Nat.reduceSub, Nat.reduceDiv, Nat.reduceLT, Nat.reduceLeDiff, Nat.reduceBEq, ne_eq, not_true_eq_false, not_false_eq_true, reduceCtorEq, if_true, if_false, eq_self, Nat.add_zero, Nat.zero_add, lit, lit_nn, I_nat, I_add, I_mul, I_sub, I_div, inb_t, I_ne, I_nn, nn_I, nn_lt, nn_le, lt_nn, le_nn, I_t, I_f, I_lt_t, I_lt_f, isb_0, isb_1, vz_0, vz_1, nn_nat]) m
  unfold fX6_back_k15 fX6_back_k15_L2
  rw [lit]
  exact h
theorem keeps_17 {a m : St} {T : Nat → Int32} (hT : ∀ x, x < 6 → T (6 + x) = a 17 x) (h : Kp T 6 a m) : ∃ m', fX6_keeps_k16 m (I 6) = some m' ∧ Kp T 12 a m' := by
  have h := keep_gen (z := 17) (n := 6) (t := 6) (step := fun k a => fX6_keeps_k16_S2 k (I 6) (a.1) (a.2)) (by omega) (by omega) hT (fun m x hx hm rec => by
    rw [← hm 17 (by omega)]
    simp (disch := omega) only [fX6_keeps_k16_S2, ck1, bd1, bx1, bx2, aS_at, iS_at, upd_at, ↓reduceIte, Nat.reduceEqDiff, Nat.reduceAdd, Nat.reduceMul, Nat.reduceSub, Nat.reduceDiv, Nat.reduceLT, Nat.reduceLeDiff, Nat.reduceBEq, ne_eq, not_true_eq_false, not_false_eq_true, reduceCtorEq, if_true, if_false, eq_self, Nat.add_zero, Nat.zero_add, lit, lit_nn, I_nat, I_add, I_mul, I_sub, I_div, inb_t, I_ne, I_nn, nn_I, nn_lt, nn_le, lt_nn, le_nn, I_t, I_f, I_lt_t, I_lt_f, isb_0, isb_1, vz_0, vz_1, nn_nat]) (fun m rec => by
    simp (disch := omega) only [fX6_keeps_k16_S2, ck1, bd1, bx1, bx2, aS_at, iS_at, upd_at, ↓reduceIte, Nat.reduceEqDiff, Nat.reduceAdd, Nat.reduceMul, Nat.reduceSub, Nat.reduceDiv, Nat.reduceLT, Nat.reduceLeDiff, Nat.reduceBEq, ne_eq, not_true_eq_false, not_false_eq_true, reduceCtorEq, if_true, if_false, eq_self, Nat.add_zero, Nat.zero_add, lit, lit_nn, I_nat, I_add, I_mul, I_sub, I_div, inb_t, I_ne, I_nn, nn_I, nn_lt, nn_le, lt_nn, le_nn, I_t, I_f, I_lt_t, I_lt_f, isb_0, isb_1, vz_0, vz_1, nn_nat]) h
  unfold fX6_keeps_k16 fX6_keeps_k16_L2
  rw [lit]
  exact h
theorem back_17 (m : St) : ∃ f, fX6_back_k16 m (I 6) = some (pF m 17 f) ∧ ∀ x, x < 6 → f x = m 36 (6 + x) := by
  have h := back_gen (z := 17) (n := 6) (t := 6) (step := fun k a => fX6_back_k16_S2 k (I 6) (a.1) (a.2)) (by omega) (by omega) (by omega) (fun m x hx rec => by
    simp (disch := omega) only [fX6_back_k16_S2, ck1, bd1, bx1, bx2, aS_at, iS_at, upd_at, ↓reduceIte, Nat.reduceEqDiff, Nat.reduceAdd, Nat.reduceMul, Nat.reduceSub, Nat.reduceDiv, Nat.reduceLT, Nat.reduceLeDiff, Nat.reduceBEq, ne_eq, not_true_eq_false, not_false_eq_true, reduceCtorEq, if_true, if_false, eq_self, Nat.add_zero, Nat.zero_add, lit, lit_nn, I_nat, I_add, I_mul, I_sub, I_div, inb_t, I_ne, I_nn, nn_I, nn_lt, nn_le, lt_nn, le_nn, I_t, I_f, I_lt_t, I_lt_f, isb_0, isb_1, vz_0, vz_1, nn_nat]) (fun m rec => by
    simp (disch := omega) only [fX6_back_k16_S2, ck1, bd1, bx1, bx2, aS_at, iS_at, upd_at, ↓reduceIte, Nat.reduceEqDiff, Nat.reduceAdd, Nat.reduceMul, Nat.reduceSub, Nat.reduceDiv, Nat.reduceLT, Nat.reduceLeDiff, Nat.reduceBEq, ne_eq, not_true_eq_false, not_false_eq_true, reduceCtorEq, if_true, if_false, eq_self, Nat.add_zero, Nat.zero_add, lit, lit_nn, I_nat, I_add, I_mul, I_sub, I_div, inb_t, I_ne, I_nn, nn_I, nn_lt, nn_le, lt_nn, le_nn, I_t, I_f, I_lt_t, I_lt_f, isb_0, isb_1, vz_0, vz_1, nn_nat]) m
  unfold fX6_back_k16 fX6_back_k16_L2
  rw [lit]
  exact h
theorem keeps_18 {a m : St} {T : Nat → Int32} (hT : ∀ x, x < 6 → T (12 + x) = a 18 x) (h : Kp T 12 a m) : ∃ m', fX6_keeps_k17 m (I 12) = some m' ∧ Kp T 18 a m' := by
  have h := keep_gen (z := 18) (n := 6) (t := 12) (step := fun k a => fX6_keeps_k17_S2 k (I 12) (a.1) (a.2)) (by omega) (by omega) hT (fun m x hx hm rec => by
    rw [← hm 18 (by omega)]
    simp (disch := omega) only [fX6_keeps_k17_S2, ck1, bd1, bx1, bx2, aS_at, iS_at, upd_at, ↓reduceIte, Nat.reduceEqDiff, Nat.reduceAdd, Nat.reduceMul, Nat.reduceSub, Nat.reduceDiv, Nat.reduceLT, Nat.reduceLeDiff, Nat.reduceBEq, ne_eq, not_true_eq_false, not_false_eq_true, reduceCtorEq, if_true, if_false, eq_self, Nat.add_zero, Nat.zero_add, lit, lit_nn, I_nat, I_add, I_mul, I_sub, I_div, inb_t, I_ne, I_nn, nn_I, nn_lt, nn_le, lt_nn, le_nn, I_t, I_f, I_lt_t, I_lt_f, isb_0, isb_1, vz_0, vz_1, nn_nat]) (fun m rec => by
    simp (disch := omega) only [fX6_keeps_k17_S2, ck1, bd1, bx1, bx2, aS_at, iS_at, upd_at, ↓reduceIte, Nat.reduceEqDiff, Nat.reduceAdd, Nat.reduceMul, Nat.reduceSub, Nat.reduceDiv, Nat.reduceLT, Nat.reduceLeDiff, Nat.reduceBEq, ne_eq, not_true_eq_false, not_false_eq_true, reduceCtorEq, if_true, if_false, eq_self, Nat.add_zero, Nat.zero_add, lit, lit_nn, I_nat, I_add, I_mul, I_sub, I_div, inb_t, I_ne, I_nn, nn_I, nn_lt, nn_le, lt_nn, le_nn, I_t, I_f, I_lt_t, I_lt_f, isb_0, isb_1, vz_0, vz_1, nn_nat]) h
  unfold fX6_keeps_k17 fX6_keeps_k17_L2
  rw [lit]
  exact h
theorem back_18 (m : St) : ∃ f, fX6_back_k17 m (I 12) = some (pF m 18 f) ∧ ∀ x, x < 6 → f x = m 36 (12 + x) := by
  have h := back_gen (z := 18) (n := 6) (t := 12) (step := fun k a => fX6_back_k17_S2 k (I 12) (a.1) (a.2)) (by omega) (by omega) (by omega) (fun m x hx rec => by
    simp (disch := omega) only [fX6_back_k17_S2, ck1, bd1, bx1, bx2, aS_at, iS_at, upd_at, ↓reduceIte, Nat.reduceEqDiff, Nat.reduceAdd, Nat.reduceMul, Nat.reduceSub, Nat.reduceDiv, Nat.reduceLT, Nat.reduceLeDiff, Nat.reduceBEq, ne_eq, not_true_eq_false, not_false_eq_true, reduceCtorEq, if_true, if_false, eq_self, Nat.add_zero, Nat.zero_add, lit, lit_nn, I_nat, I_add, I_mul, I_sub, I_div, inb_t, I_ne, I_nn, nn_I, nn_lt, nn_le, lt_nn, le_nn, I_t, I_f, I_lt_t, I_lt_f, isb_0, isb_1, vz_0, vz_1, nn_nat]) (fun m rec => by
    simp (disch := omega) only [fX6_back_k17_S2, ck1, bd1, bx1, bx2, aS_at, iS_at, upd_at, ↓reduceIte, Nat.reduceEqDiff, Nat.reduceAdd, Nat.reduceMul, Nat.reduceSub, Nat.reduceDiv, Nat.reduceLT, Nat.reduceLeDiff, Nat.reduceBEq, ne_eq, not_true_eq_false, not_false_eq_true, reduceCtorEq, if_true, if_false, eq_self, Nat.add_zero, Nat.zero_add, lit, lit_nn, I_nat, I_add, I_mul, I_sub, I_div, inb_t, I_ne, I_nn, nn_I, nn_lt, nn_le, lt_nn, le_nn, I_t, I_f, I_lt_t, I_lt_f, isb_0, isb_1, vz_0, vz_1, nn_nat]) m
  unfold fX6_back_k17 fX6_back_k17_L2
  rw [lit]
  exact h
theorem keeps_19 {a m : St} {T : Nat → Int32} (hT : ∀ x, x < 6 → T (18 + x) = a 19 x) (h : Kp T 18 a m) : ∃ m', fX6_keeps_k18 m (I 18) = some m' ∧ Kp T 24 a m' := by
  have h := keep_gen (z := 19) (n := 6) (t := 18) (step := fun k a => fX6_keeps_k18_S2 k (I 18) (a.1) (a.2)) (by omega) (by omega) hT (fun m x hx hm rec => by
    rw [← hm 19 (by omega)]
    simp (disch := omega) only [fX6_keeps_k18_S2, ck1, bd1, bx1, bx2, aS_at, iS_at, upd_at, ↓reduceIte, Nat.reduceEqDiff, Nat.reduceAdd, Nat.reduceMul, Nat.reduceSub, Nat.reduceDiv, Nat.reduceLT, Nat.reduceLeDiff, Nat.reduceBEq, ne_eq, not_true_eq_false, not_false_eq_true, reduceCtorEq, if_true, if_false, eq_self, Nat.add_zero, Nat.zero_add, lit, lit_nn, I_nat, I_add, I_mul, I_sub, I_div, inb_t, I_ne, I_nn, nn_I, nn_lt, nn_le, lt_nn, le_nn, I_t, I_f, I_lt_t, I_lt_f, isb_0, isb_1, vz_0, vz_1, nn_nat]) (fun m rec => by
    simp (disch := omega) only [fX6_keeps_k18_S2, ck1, bd1, bx1, bx2, aS_at, iS_at, upd_at, ↓reduceIte, Nat.reduceEqDiff, Nat.reduceAdd, Nat.reduceMul, Nat.reduceSub, Nat.reduceDiv, Nat.reduceLT, Nat.reduceLeDiff, Nat.reduceBEq, ne_eq, not_true_eq_false, not_false_eq_true, reduceCtorEq, if_true, if_false, eq_self, Nat.add_zero, Nat.zero_add, lit, lit_nn, I_nat, I_add, I_mul, I_sub, I_div, inb_t, I_ne, I_nn, nn_I, nn_lt, nn_le, lt_nn, le_nn, I_t, I_f, I_lt_t, I_lt_f, isb_0, isb_1, vz_0, vz_1, nn_nat]) h
  unfold fX6_keeps_k18 fX6_keeps_k18_L2
  rw [lit]
  exact h
theorem back_19 (m : St) : ∃ f, fX6_back_k18 m (I 18) = some (pF m 19 f) ∧ ∀ x, x < 6 → f x = m 36 (18 + x) := by
  have h := back_gen (z := 19) (n := 6) (t := 18) (step := fun k a => fX6_back_k18_S2 k (I 18) (a.1) (a.2)) (by omega) (by omega) (by omega) (fun m x hx rec => by
    simp (disch := omega) only [fX6_back_k18_S2, ck1, bd1, bx1, bx2, aS_at, iS_at, upd_at, ↓reduceIte, Nat.reduceEqDiff, Nat.reduceAdd, Nat.reduceMul, Nat.reduceSub, Nat.reduceDiv, Nat.reduceLT, Nat.reduceLeDiff, Nat.reduceBEq, ne_eq, not_true_eq_false, not_false_eq_true, reduceCtorEq, if_true, if_false, eq_self, Nat.add_zero, Nat.zero_add, lit, lit_nn, I_nat, I_add, I_mul, I_sub, I_div, inb_t, I_ne, I_nn, nn_I, nn_lt, nn_le, lt_nn, le_nn, I_t, I_f, I_lt_t, I_lt_f, isb_0, isb_1, vz_0, vz_1, nn_nat]) (fun m rec => by
    simp (disch := omega) only [fX6_back_k18_S2, ck1, bd1, bx1, bx2, aS_at, iS_at, upd_at, ↓reduceIte, Nat.reduceEqDiff, Nat.reduceAdd, Nat.reduceMul, Nat.reduceSub, Nat.reduceDiv, Nat.reduceLT, Nat.reduceLeDiff, Nat.reduceBEq, ne_eq, not_true_eq_false, not_false_eq_true, reduceCtorEq, if_true, if_false, eq_self, Nat.add_zero, Nat.zero_add, lit, lit_nn, I_nat, I_add, I_mul, I_sub, I_div, inb_t, I_ne, I_nn, nn_I, nn_lt, nn_le, lt_nn, le_nn, I_t, I_f, I_lt_t, I_lt_f, isb_0, isb_1, vz_0, vz_1, nn_nat]) m
  unfold fX6_back_k18 fX6_back_k18_L2
  rw [lit]
  exact h
theorem keeps_13 {a m : St} {T : Nat → Int32} (hT : ∀ x, x < 30 → T (24 + x) = a 13 x) (h : Kp T 24 a m) : ∃ m', fX6_keeps_k12 m (I 24) = some m' ∧ Kp T 54 a m' := by
  have h := keep_gen (z := 13) (n := 30) (t := 24) (step := fun k a => fX6_keeps_k12_S2 k (I 24) (a.1) (a.2)) (by omega) (by omega) hT (fun m x hx hm rec => by
    rw [← hm 13 (by omega)]
    simp (disch := omega) only [fX6_keeps_k12_S2, ck1, bd1, bx1, bx2, aS_at, iS_at, upd_at, ↓reduceIte, Nat.reduceEqDiff, Nat.reduceAdd, Nat.reduceMul, Nat.reduceSub, Nat.reduceDiv, Nat.reduceLT, Nat.reduceLeDiff, Nat.reduceBEq, ne_eq, not_true_eq_false, not_false_eq_true, reduceCtorEq, if_true, if_false, eq_self, Nat.add_zero, Nat.zero_add, lit, lit_nn, I_nat, I_add, I_mul, I_sub, I_div, inb_t, I_ne, I_nn, nn_I, nn_lt, nn_le, lt_nn, le_nn, I_t, I_f, I_lt_t, I_lt_f, isb_0, isb_1, vz_0, vz_1, nn_nat]) (fun m rec => by
    simp (disch := omega) only [fX6_keeps_k12_S2, ck1, bd1, bx1, bx2, aS_at, iS_at, upd_at, ↓reduceIte, Nat.reduceEqDiff, Nat.reduceAdd, Nat.reduceMul, Nat.reduceSub, Nat.reduceDiv, Nat.reduceLT, Nat.reduceLeDiff, Nat.reduceBEq, ne_eq, not_true_eq_false, not_false_eq_true, reduceCtorEq, if_true, if_false, eq_self, Nat.add_zero, Nat.zero_add, lit, lit_nn, I_nat, I_add, I_mul, I_sub, I_div, inb_t, I_ne, I_nn, nn_I, nn_lt, nn_le, lt_nn, le_nn, I_t, I_f, I_lt_t, I_lt_f, isb_0, isb_1, vz_0, vz_1, nn_nat]) h
  unfold fX6_keeps_k12 fX6_keeps_k12_L2
  rw [lit]
  exact h
theorem back_13 (m : St) : ∃ f, fX6_back_k12 m (I 24) = some (pF m 13 f) ∧ ∀ x, x < 30 → f x = m 36 (24 + x) := by
  have h := back_gen (z := 13) (n := 30) (t := 24) (step := fun k a => fX6_back_k12_S2 k (I 24) (a.1) (a.2)) (by omega) (by omega) (by omega) (fun m x hx rec => by
    simp (disch := omega) only [fX6_back_k12_S2, ck1, bd1, bx1, bx2, aS_at, iS_at, upd_at, ↓reduceIte, Nat.reduceEqDiff, Nat.reduceAdd, Nat.reduceMul, Nat.reduceSub, Nat.reduceDiv, Nat.reduceLT, Nat.reduceLeDiff, Nat.reduceBEq, ne_eq, not_true_eq_false, not_false_eq_true, reduceCtorEq, if_true, if_false, eq_self, Nat.add_zero, Nat.zero_add, lit, lit_nn, I_nat, I_add, I_mul, I_sub, I_div, inb_t, I_ne, I_nn, nn_I, nn_lt, nn_le, lt_nn, le_nn, I_t, I_f, I_lt_t, I_lt_f, isb_0, isb_1, vz_0, vz_1, nn_nat]) (fun m rec => by
    simp (disch := omega) only [fX6_back_k12_S2, ck1, bd1, bx1, bx2, aS_at, iS_at, upd_at, ↓reduceIte, Nat.reduceEqDiff, Nat.reduceAdd, Nat.reduceMul, Nat.reduceSub, Nat.reduceDiv, Nat.reduceLT, Nat.reduceLeDiff, Nat.reduceBEq, ne_eq, not_true_eq_false, not_false_eq_true, reduceCtorEq, if_true, if_false, eq_self, Nat.add_zero, Nat.zero_add, lit, lit_nn, I_nat, I_add, I_mul, I_sub, I_div, inb_t, I_ne, I_nn, nn_I, nn_lt, nn_le, lt_nn, le_nn, I_t, I_f, I_lt_t, I_lt_f, isb_0, isb_1, vz_0, vz_1, nn_nat]) m
  unfold fX6_back_k12 fX6_back_k12_L2
  rw [lit]
  exact h
theorem keeps_14 {a m : St} {T : Nat → Int32} (hT : ∀ x, x < 30 → T (54 + x) = a 14 x) (h : Kp T 54 a m) : ∃ m', fX6_keeps_k13 m (I 54) = some m' ∧ Kp T 84 a m' := by
  have h := keep_gen (z := 14) (n := 30) (t := 54) (step := fun k a => fX6_keeps_k13_S2 k (I 54) (a.1) (a.2)) (by omega) (by omega) hT (fun m x hx hm rec => by
    rw [← hm 14 (by omega)]
    simp (disch := omega) only [fX6_keeps_k13_S2, ck1, bd1, bx1, bx2, aS_at, iS_at, upd_at, ↓reduceIte, Nat.reduceEqDiff, Nat.reduceAdd, Nat.reduceMul, Nat.reduceSub, Nat.reduceDiv, Nat.reduceLT, Nat.reduceLeDiff, Nat.reduceBEq, ne_eq, not_true_eq_false, not_false_eq_true, reduceCtorEq, if_true, if_false, eq_self, Nat.add_zero, Nat.zero_add, lit, lit_nn, I_nat, I_add, I_mul, I_sub, I_div, inb_t, I_ne, I_nn, nn_I, nn_lt, nn_le, lt_nn, le_nn, I_t, I_f, I_lt_t, I_lt_f, isb_0, isb_1, vz_0, vz_1, nn_nat]) (fun m rec => by
    simp (disch := omega) only [fX6_keeps_k13_S2, ck1, bd1, bx1, bx2, aS_at, iS_at, upd_at, ↓reduceIte, Nat.reduceEqDiff, Nat.reduceAdd, Nat.reduceMul, Nat.reduceSub, Nat.reduceDiv, Nat.reduceLT, Nat.reduceLeDiff, Nat.reduceBEq, ne_eq, not_true_eq_false, not_false_eq_true, reduceCtorEq, if_true, if_false, eq_self, Nat.add_zero, Nat.zero_add, lit, lit_nn, I_nat, I_add, I_mul, I_sub, I_div, inb_t, I_ne, I_nn, nn_I, nn_lt, nn_le, lt_nn, le_nn, I_t, I_f, I_lt_t, I_lt_f, isb_0, isb_1, vz_0, vz_1, nn_nat]) h
  unfold fX6_keeps_k13 fX6_keeps_k13_L2
  rw [lit]
  exact h
theorem back_14 (m : St) : ∃ f, fX6_back_k13 m (I 54) = some (pF m 14 f) ∧ ∀ x, x < 30 → f x = m 36 (54 + x) := by
  have h := back_gen (z := 14) (n := 30) (t := 54) (step := fun k a => fX6_back_k13_S2 k (I 54) (a.1) (a.2)) (by omega) (by omega) (by omega) (fun m x hx rec => by
    simp (disch := omega) only [fX6_back_k13_S2, ck1, bd1, bx1, bx2, aS_at, iS_at, upd_at, ↓reduceIte, Nat.reduceEqDiff, Nat.reduceAdd, Nat.reduceMul, Nat.reduceSub, Nat.reduceDiv, Nat.reduceLT, Nat.reduceLeDiff, Nat.reduceBEq, ne_eq, not_true_eq_false, not_false_eq_true, reduceCtorEq, if_true, if_false, eq_self, Nat.add_zero, Nat.zero_add, lit, lit_nn, I_nat, I_add, I_mul, I_sub, I_div, inb_t, I_ne, I_nn, nn_I, nn_lt, nn_le, lt_nn, le_nn, I_t, I_f, I_lt_t, I_lt_f, isb_0, isb_1, vz_0, vz_1, nn_nat]) (fun m rec => by
    simp (disch := omega) only [fX6_back_k13_S2, ck1, bd1, bx1, bx2, aS_at, iS_at, upd_at, ↓reduceIte, Nat.reduceEqDiff, Nat.reduceAdd, Nat.reduceMul, Nat.reduceSub, Nat.reduceDiv, Nat.reduceLT, Nat.reduceLeDiff, Nat.reduceBEq, ne_eq, not_true_eq_false, not_false_eq_true, reduceCtorEq, if_true, if_false, eq_self, Nat.add_zero, Nat.zero_add, lit, lit_nn, I_nat, I_add, I_mul, I_sub, I_div, inb_t, I_ne, I_nn, nn_I, nn_lt, nn_le, lt_nn, le_nn, I_t, I_f, I_lt_t, I_lt_f, isb_0, isb_1, vz_0, vz_1, nn_nat]) m
  unfold fX6_back_k13 fX6_back_k13_L2
  rw [lit]
  exact h
theorem keeps_11 {a m : St} {T : Nat → Int32} (hT : ∀ x, x < 30 → T (84 + x) = a 11 x) (h : Kp T 84 a m) : ∃ m', fX6_keeps_k10 m (I 84) = some m' ∧ Kp T 114 a m' := by
  have h := keep_gen (z := 11) (n := 30) (t := 84) (step := fun k a => fX6_keeps_k10_S2 k (I 84) (a.1) (a.2)) (by omega) (by omega) hT (fun m x hx hm rec => by
    rw [← hm 11 (by omega)]
    simp (disch := omega) only [fX6_keeps_k10_S2, ck1, bd1, bx1, bx2, aS_at, iS_at, upd_at, ↓reduceIte, Nat.reduceEqDiff, Nat.reduceAdd, Nat.reduceMul, Nat.reduceSub, Nat.reduceDiv, Nat.reduceLT, Nat.reduceLeDiff, Nat.reduceBEq, ne_eq, not_true_eq_false, not_false_eq_true, reduceCtorEq, if_true, if_false, eq_self, Nat.add_zero, Nat.zero_add, lit, lit_nn, I_nat, I_add, I_mul, I_sub, I_div, inb_t, I_ne, I_nn, nn_I, nn_lt, nn_le, lt_nn, le_nn, I_t, I_f, I_lt_t, I_lt_f, isb_0, isb_1, vz_0, vz_1, nn_nat]) (fun m rec => by
    simp (disch := omega) only [fX6_keeps_k10_S2, ck1, bd1, bx1, bx2, aS_at, iS_at, upd_at, ↓reduceIte, Nat.reduceEqDiff, Nat.reduceAdd, Nat.reduceMul, Nat.reduceSub, Nat.reduceDiv, Nat.reduceLT, Nat.reduceLeDiff, Nat.reduceBEq, ne_eq, not_true_eq_false, not_false_eq_true, reduceCtorEq, if_true, if_false, eq_self, Nat.add_zero, Nat.zero_add, lit, lit_nn, I_nat, I_add, I_mul, I_sub, I_div, inb_t, I_ne, I_nn, nn_I, nn_lt, nn_le, lt_nn, le_nn, I_t, I_f, I_lt_t, I_lt_f, isb_0, isb_1, vz_0, vz_1, nn_nat]) h
  unfold fX6_keeps_k10 fX6_keeps_k10_L2
  rw [lit]
  exact h
theorem back_11 (m : St) : ∃ f, fX6_back_k10 m (I 84) = some (pF m 11 f) ∧ ∀ x, x < 30 → f x = m 36 (84 + x) := by
  have h := back_gen (z := 11) (n := 30) (t := 84) (step := fun k a => fX6_back_k10_S2 k (I 84) (a.1) (a.2)) (by omega) (by omega) (by omega) (fun m x hx rec => by
    simp (disch := omega) only [fX6_back_k10_S2, ck1, bd1, bx1, bx2, aS_at, iS_at, upd_at, ↓reduceIte, Nat.reduceEqDiff, Nat.reduceAdd, Nat.reduceMul, Nat.reduceSub, Nat.reduceDiv, Nat.reduceLT, Nat.reduceLeDiff, Nat.reduceBEq, ne_eq, not_true_eq_false, not_false_eq_true, reduceCtorEq, if_true, if_false, eq_self, Nat.add_zero, Nat.zero_add, lit, lit_nn, I_nat, I_add, I_mul, I_sub, I_div, inb_t, I_ne, I_nn, nn_I, nn_lt, nn_le, lt_nn, le_nn, I_t, I_f, I_lt_t, I_lt_f, isb_0, isb_1, vz_0, vz_1, nn_nat]) (fun m rec => by
    simp (disch := omega) only [fX6_back_k10_S2, ck1, bd1, bx1, bx2, aS_at, iS_at, upd_at, ↓reduceIte, Nat.reduceEqDiff, Nat.reduceAdd, Nat.reduceMul, Nat.reduceSub, Nat.reduceDiv, Nat.reduceLT, Nat.reduceLeDiff, Nat.reduceBEq, ne_eq, not_true_eq_false, not_false_eq_true, reduceCtorEq, if_true, if_false, eq_self, Nat.add_zero, Nat.zero_add, lit, lit_nn, I_nat, I_add, I_mul, I_sub, I_div, inb_t, I_ne, I_nn, nn_I, nn_lt, nn_le, lt_nn, le_nn, I_t, I_f, I_lt_t, I_lt_f, isb_0, isb_1, vz_0, vz_1, nn_nat]) m
  unfold fX6_back_k10 fX6_back_k10_L2
  rw [lit]
  exact h
theorem keeps_15 {a m : St} {T : Nat → Int32} (hT : ∀ x, x < 30 → T (114 + x) = a 15 x) (h : Kp T 114 a m) : ∃ m', fX6_keeps_k14 m (I 114) = some m' ∧ Kp T 144 a m' := by
  have h := keep_gen (z := 15) (n := 30) (t := 114) (step := fun k a => fX6_keeps_k14_S2 k (I 114) (a.1) (a.2)) (by omega) (by omega) hT (fun m x hx hm rec => by
    rw [← hm 15 (by omega)]
    simp (disch := omega) only [fX6_keeps_k14_S2, ck1, bd1, bx1, bx2, aS_at, iS_at, upd_at, ↓reduceIte, Nat.reduceEqDiff, Nat.reduceAdd, Nat.reduceMul, Nat.reduceSub, Nat.reduceDiv, Nat.reduceLT, Nat.reduceLeDiff, Nat.reduceBEq, ne_eq, not_true_eq_false, not_false_eq_true, reduceCtorEq, if_true, if_false, eq_self, Nat.add_zero, Nat.zero_add, lit, lit_nn, I_nat, I_add, I_mul, I_sub, I_div, inb_t, I_ne, I_nn, nn_I, nn_lt, nn_le, lt_nn, le_nn, I_t, I_f, I_lt_t, I_lt_f, isb_0, isb_1, vz_0, vz_1, nn_nat]) (fun m rec => by
    simp (disch := omega) only [fX6_keeps_k14_S2, ck1, bd1, bx1, bx2, aS_at, iS_at, upd_at, ↓reduceIte, Nat.reduceEqDiff, Nat.reduceAdd, Nat.reduceMul, Nat.reduceSub, Nat.reduceDiv, Nat.reduceLT, Nat.reduceLeDiff, Nat.reduceBEq, ne_eq, not_true_eq_false, not_false_eq_true, reduceCtorEq, if_true, if_false, eq_self, Nat.add_zero, Nat.zero_add, lit, lit_nn, I_nat, I_add, I_mul, I_sub, I_div, inb_t, I_ne, I_nn, nn_I, nn_lt, nn_le, lt_nn, le_nn, I_t, I_f, I_lt_t, I_lt_f, isb_0, isb_1, vz_0, vz_1, nn_nat]) h
  unfold fX6_keeps_k14 fX6_keeps_k14_L2
  rw [lit]
  exact h
theorem back_15 (m : St) : ∃ f, fX6_back_k14 m (I 114) = some (pF m 15 f) ∧ ∀ x, x < 30 → f x = m 36 (114 + x) := by
  have h := back_gen (z := 15) (n := 30) (t := 114) (step := fun k a => fX6_back_k14_S2 k (I 114) (a.1) (a.2)) (by omega) (by omega) (by omega) (fun m x hx rec => by
    simp (disch := omega) only [fX6_back_k14_S2, ck1, bd1, bx1, bx2, aS_at, iS_at, upd_at, ↓reduceIte, Nat.reduceEqDiff, Nat.reduceAdd, Nat.reduceMul, Nat.reduceSub, Nat.reduceDiv, Nat.reduceLT, Nat.reduceLeDiff, Nat.reduceBEq, ne_eq, not_true_eq_false, not_false_eq_true, reduceCtorEq, if_true, if_false, eq_self, Nat.add_zero, Nat.zero_add, lit, lit_nn, I_nat, I_add, I_mul, I_sub, I_div, inb_t, I_ne, I_nn, nn_I, nn_lt, nn_le, lt_nn, le_nn, I_t, I_f, I_lt_t, I_lt_f, isb_0, isb_1, vz_0, vz_1, nn_nat]) (fun m rec => by
    simp (disch := omega) only [fX6_back_k14_S2, ck1, bd1, bx1, bx2, aS_at, iS_at, upd_at, ↓reduceIte, Nat.reduceEqDiff, Nat.reduceAdd, Nat.reduceMul, Nat.reduceSub, Nat.reduceDiv, Nat.reduceLT, Nat.reduceLeDiff, Nat.reduceBEq, ne_eq, not_true_eq_false, not_false_eq_true, reduceCtorEq, if_true, if_false, eq_self, Nat.add_zero, Nat.zero_add, lit, lit_nn, I_nat, I_add, I_mul, I_sub, I_div, inb_t, I_ne, I_nn, nn_I, nn_lt, nn_le, lt_nn, le_nn, I_t, I_f, I_lt_t, I_lt_f, isb_0, isb_1, vz_0, vz_1, nn_nat]) m
  unfold fX6_back_k14 fX6_back_k14_L2
  rw [lit]
  exact h
theorem keeps_24 {a m : St} {T : Nat → Int32} (hT : ∀ x, x < 6 → T (144 + x) = a 24 x) (h : Kp T 144 a m) : ∃ m', fX6_keeps_k23 m (I 144) = some m' ∧ Kp T 150 a m' := by
  have h := keep_gen (z := 24) (n := 6) (t := 144) (step := fun k a => fX6_keeps_k23_S2 k (I 144) (a.1) (a.2)) (by omega) (by omega) hT (fun m x hx hm rec => by
    rw [← hm 24 (by omega)]
    simp (disch := omega) only [fX6_keeps_k23_S2, ck1, bd1, bx1, bx2, aS_at, iS_at, upd_at, ↓reduceIte, Nat.reduceEqDiff, Nat.reduceAdd, Nat.reduceMul, Nat.reduceSub, Nat.reduceDiv, Nat.reduceLT, Nat.reduceLeDiff, Nat.reduceBEq, ne_eq, not_true_eq_false, not_false_eq_true, reduceCtorEq, if_true, if_false, eq_self, Nat.add_zero, Nat.zero_add, lit, lit_nn, I_nat, I_add, I_mul, I_sub, I_div, inb_t, I_ne, I_nn, nn_I, nn_lt, nn_le, lt_nn, le_nn, I_t, I_f, I_lt_t, I_lt_f, isb_0, isb_1, vz_0, vz_1, nn_nat]) (fun m rec => by
    simp (disch := omega) only [fX6_keeps_k23_S2, ck1, bd1, bx1, bx2, aS_at, iS_at, upd_at, ↓reduceIte, Nat.reduceEqDiff, Nat.reduceAdd, Nat.reduceMul, Nat.reduceSub, Nat.reduceDiv, Nat.reduceLT, Nat.reduceLeDiff, Nat.reduceBEq, ne_eq, not_true_eq_false, not_false_eq_true, reduceCtorEq, if_true, if_false, eq_self, Nat.add_zero, Nat.zero_add, lit, lit_nn, I_nat, I_add, I_mul, I_sub, I_div, inb_t, I_ne, I_nn, nn_I, nn_lt, nn_le, lt_nn, le_nn, I_t, I_f, I_lt_t, I_lt_f, isb_0, isb_1, vz_0, vz_1, nn_nat]) h
  unfold fX6_keeps_k23 fX6_keeps_k23_L2
  rw [lit]
  exact h
theorem back_24 (m : St) : ∃ f, fX6_back_k23 m (I 144) = some (pF m 24 f) ∧ ∀ x, x < 6 → f x = m 36 (144 + x) := by
  have h := back_gen (z := 24) (n := 6) (t := 144) (step := fun k a => fX6_back_k23_S2 k (I 144) (a.1) (a.2)) (by omega) (by omega) (by omega) (fun m x hx rec => by
    simp (disch := omega) only [fX6_back_k23_S2, ck1, bd1, bx1, bx2, aS_at, iS_at, upd_at, ↓reduceIte, Nat.reduceEqDiff, Nat.reduceAdd, Nat.reduceMul, Nat.reduceSub, Nat.reduceDiv, Nat.reduceLT, Nat.reduceLeDiff, Nat.reduceBEq, ne_eq, not_true_eq_false, not_false_eq_true, reduceCtorEq, if_true, if_false, eq_self, Nat.add_zero, Nat.zero_add, lit, lit_nn, I_nat, I_add, I_mul, I_sub, I_div, inb_t, I_ne, I_nn, nn_I, nn_lt, nn_le, lt_nn, le_nn, I_t, I_f, I_lt_t, I_lt_f, isb_0, isb_1, vz_0, vz_1, nn_nat]) (fun m rec => by
    simp (disch := omega) only [fX6_back_k23_S2, ck1, bd1, bx1, bx2, aS_at, iS_at, upd_at, ↓reduceIte, Nat.reduceEqDiff, Nat.reduceAdd, Nat.reduceMul, Nat.reduceSub, Nat.reduceDiv, Nat.reduceLT, Nat.reduceLeDiff, Nat.reduceBEq, ne_eq, not_true_eq_false, not_false_eq_true, reduceCtorEq, if_true, if_false, eq_self, Nat.add_zero, Nat.zero_add, lit, lit_nn, I_nat, I_add, I_mul, I_sub, I_div, inb_t, I_ne, I_nn, nn_I, nn_lt, nn_le, lt_nn, le_nn, I_t, I_f, I_lt_t, I_lt_f, isb_0, isb_1, vz_0, vz_1, nn_nat]) m
  unfold fX6_back_k23 fX6_back_k23_L2
  rw [lit]
  exact h
theorem keeps_25 {a m : St} {T : Nat → Int32} (hT : ∀ x, x < 48 → T (150 + x) = a 25 x) (h : Kp T 150 a m) : ∃ m', fX6_keeps_k24 m (I 150) = some m' ∧ Kp T 198 a m' := by
  have h := keep_gen (z := 25) (n := 48) (t := 150) (step := fun k a => fX6_keeps_k24_S2 k (I 150) (a.1) (a.2)) (by omega) (by omega) hT (fun m x hx hm rec => by
    rw [← hm 25 (by omega)]
    simp (disch := omega) only [fX6_keeps_k24_S2, ck1, bd1, bx1, bx2, aS_at, iS_at, upd_at, ↓reduceIte, Nat.reduceEqDiff, Nat.reduceAdd, Nat.reduceMul, Nat.reduceSub, Nat.reduceDiv, Nat.reduceLT, Nat.reduceLeDiff, Nat.reduceBEq, ne_eq, not_true_eq_false, not_false_eq_true, reduceCtorEq, if_true, if_false, eq_self, Nat.add_zero, Nat.zero_add, lit, lit_nn, I_nat, I_add, I_mul, I_sub, I_div, inb_t, I_ne, I_nn, nn_I, nn_lt, nn_le, lt_nn, le_nn, I_t, I_f, I_lt_t, I_lt_f, isb_0, isb_1, vz_0, vz_1, nn_nat]) (fun m rec => by
    simp (disch := omega) only [fX6_keeps_k24_S2, ck1, bd1, bx1, bx2, aS_at, iS_at, upd_at, ↓reduceIte, Nat.reduceEqDiff, Nat.reduceAdd, Nat.reduceMul, Nat.reduceSub, Nat.reduceDiv, Nat.reduceLT, Nat.reduceLeDiff, Nat.reduceBEq, ne_eq, not_true_eq_false, not_false_eq_true, reduceCtorEq, if_true, if_false, eq_self, Nat.add_zero, Nat.zero_add, lit, lit_nn, I_nat, I_add, I_mul, I_sub, I_div, inb_t, I_ne, I_nn, nn_I, nn_lt, nn_le, lt_nn, le_nn, I_t, I_f, I_lt_t, I_lt_f, isb_0, isb_1, vz_0, vz_1, nn_nat]) h
  unfold fX6_keeps_k24 fX6_keeps_k24_L2
  rw [lit]
  exact h
theorem back_25 (m : St) : ∃ f, fX6_back_k24 m (I 150) = some (pF m 25 f) ∧ ∀ x, x < 48 → f x = m 36 (150 + x) := by
  have h := back_gen (z := 25) (n := 48) (t := 150) (step := fun k a => fX6_back_k24_S2 k (I 150) (a.1) (a.2)) (by omega) (by omega) (by omega) (fun m x hx rec => by
    simp (disch := omega) only [fX6_back_k24_S2, ck1, bd1, bx1, bx2, aS_at, iS_at, upd_at, ↓reduceIte, Nat.reduceEqDiff, Nat.reduceAdd, Nat.reduceMul, Nat.reduceSub, Nat.reduceDiv, Nat.reduceLT, Nat.reduceLeDiff, Nat.reduceBEq, ne_eq, not_true_eq_false, not_false_eq_true, reduceCtorEq, if_true, if_false, eq_self, Nat.add_zero, Nat.zero_add, lit, lit_nn, I_nat, I_add, I_mul, I_sub, I_div, inb_t, I_ne, I_nn, nn_I, nn_lt, nn_le, lt_nn, le_nn, I_t, I_f, I_lt_t, I_lt_f, isb_0, isb_1, vz_0, vz_1, nn_nat]) (fun m rec => by
    simp (disch := omega) only [fX6_back_k24_S2, ck1, bd1, bx1, bx2, aS_at, iS_at, upd_at, ↓reduceIte, Nat.reduceEqDiff, Nat.reduceAdd, Nat.reduceMul, Nat.reduceSub, Nat.reduceDiv, Nat.reduceLT, Nat.reduceLeDiff, Nat.reduceBEq, ne_eq, not_true_eq_false, not_false_eq_true, reduceCtorEq, if_true, if_false, eq_self, Nat.add_zero, Nat.zero_add, lit, lit_nn, I_nat, I_add, I_mul, I_sub, I_div, inb_t, I_ne, I_nn, nn_I, nn_lt, nn_le, lt_nn, le_nn, I_t, I_f, I_lt_t, I_lt_f, isb_0, isb_1, vz_0, vz_1, nn_nat]) m
  unfold fX6_back_k24 fX6_back_k24_L2
  rw [lit]
  exact h
theorem keeps_26 {a m : St} {T : Nat → Int32} (hT : ∀ x, x < 48 → T (198 + x) = a 26 x) (h : Kp T 198 a m) : ∃ m', fX6_keeps_k25 m (I 198) = some m' ∧ Kp T 246 a m' := by
  have h := keep_gen (z := 26) (n := 48) (t := 198) (step := fun k a => fX6_keeps_k25_S2 k (I 198) (a.1) (a.2)) (by omega) (by omega) hT (fun m x hx hm rec => by
    rw [← hm 26 (by omega)]
    simp (disch := omega) only [fX6_keeps_k25_S2, ck1, bd1, bx1, bx2, aS_at, iS_at, upd_at, ↓reduceIte, Nat.reduceEqDiff, Nat.reduceAdd, Nat.reduceMul, Nat.reduceSub, Nat.reduceDiv, Nat.reduceLT, Nat.reduceLeDiff, Nat.reduceBEq, ne_eq, not_true_eq_false, not_false_eq_true, reduceCtorEq, if_true, if_false, eq_self, Nat.add_zero, Nat.zero_add, lit, lit_nn, I_nat, I_add, I_mul, I_sub, I_div, inb_t, I_ne, I_nn, nn_I, nn_lt, nn_le, lt_nn, le_nn, I_t, I_f, I_lt_t, I_lt_f, isb_0, isb_1, vz_0, vz_1, nn_nat]) (fun m rec => by
    simp (disch := omega) only [fX6_keeps_k25_S2, ck1, bd1, bx1, bx2, aS_at, iS_at, upd_at, ↓reduceIte, Nat.reduceEqDiff, Nat.reduceAdd, Nat.reduceMul, Nat.reduceSub, Nat.reduceDiv, Nat.reduceLT, Nat.reduceLeDiff, Nat.reduceBEq, ne_eq, not_true_eq_false, not_false_eq_true, reduceCtorEq, if_true, if_false, eq_self, Nat.add_zero, Nat.zero_add, lit, lit_nn, I_nat, I_add, I_mul, I_sub, I_div, inb_t, I_ne, I_nn, nn_I, nn_lt, nn_le, lt_nn, le_nn, I_t, I_f, I_lt_t, I_lt_f, isb_0, isb_1, vz_0, vz_1, nn_nat]) h
  unfold fX6_keeps_k25 fX6_keeps_k25_L2
  rw [lit]
  exact h
theorem back_26 (m : St) : ∃ f, fX6_back_k25 m (I 198) = some (pF m 26 f) ∧ ∀ x, x < 48 → f x = m 36 (198 + x) := by
  have h := back_gen (z := 26) (n := 48) (t := 198) (step := fun k a => fX6_back_k25_S2 k (I 198) (a.1) (a.2)) (by omega) (by omega) (by omega) (fun m x hx rec => by
    simp (disch := omega) only [fX6_back_k25_S2, ck1, bd1, bx1, bx2, aS_at, iS_at, upd_at, ↓reduceIte, Nat.reduceEqDiff, Nat.reduceAdd, Nat.reduceMul, Nat.reduceSub, Nat.reduceDiv, Nat.reduceLT, Nat.reduceLeDiff, Nat.reduceBEq, ne_eq, not_true_eq_false, not_false_eq_true, reduceCtorEq, if_true, if_false, eq_self, Nat.add_zero, Nat.zero_add, lit, lit_nn, I_nat, I_add, I_mul, I_sub, I_div, inb_t, I_ne, I_nn, nn_I, nn_lt, nn_le, lt_nn, le_nn, I_t, I_f, I_lt_t, I_lt_f, isb_0, isb_1, vz_0, vz_1, nn_nat]) (fun m rec => by
    simp (disch := omega) only [fX6_back_k25_S2, ck1, bd1, bx1, bx2, aS_at, iS_at, upd_at, ↓reduceIte, Nat.reduceEqDiff, Nat.reduceAdd, Nat.reduceMul, Nat.reduceSub, Nat.reduceDiv, Nat.reduceLT, Nat.reduceLeDiff, Nat.reduceBEq, ne_eq, not_true_eq_false, not_false_eq_true, reduceCtorEq, if_true, if_false, eq_self, Nat.add_zero, Nat.zero_add, lit, lit_nn, I_nat, I_add, I_mul, I_sub, I_div, inb_t, I_ne, I_nn, nn_I, nn_lt, nn_le, lt_nn, le_nn, I_t, I_f, I_lt_t, I_lt_f, isb_0, isb_1, vz_0, vz_1, nn_nat]) m
  unfold fX6_back_k25 fX6_back_k25_L2
  rw [lit]
  exact h
theorem keeps_27 {a m : St} {T : Nat → Int32} (hT : ∀ x, x < 48 → T (246 + x) = a 27 x) (h : Kp T 246 a m) : ∃ m', fX6_keeps_k26 m (I 246) = some m' ∧ Kp T 294 a m' := by
  have h := keep_gen (z := 27) (n := 48) (t := 246) (step := fun k a => fX6_keeps_k26_S2 k (I 246) (a.1) (a.2)) (by omega) (by omega) hT (fun m x hx hm rec => by
    rw [← hm 27 (by omega)]
    simp (disch := omega) only [fX6_keeps_k26_S2, ck1, bd1, bx1, bx2, aS_at, iS_at, upd_at, ↓reduceIte, Nat.reduceEqDiff, Nat.reduceAdd, Nat.reduceMul, Nat.reduceSub, Nat.reduceDiv, Nat.reduceLT, Nat.reduceLeDiff, Nat.reduceBEq, ne_eq, not_true_eq_false, not_false_eq_true, reduceCtorEq, if_true, if_false, eq_self, Nat.add_zero, Nat.zero_add, lit, lit_nn, I_nat, I_add, I_mul, I_sub, I_div, inb_t, I_ne, I_nn, nn_I, nn_lt, nn_le, lt_nn, le_nn, I_t, I_f, I_lt_t, I_lt_f, isb_0, isb_1, vz_0, vz_1, nn_nat]) (fun m rec => by
    simp (disch := omega) only [fX6_keeps_k26_S2, ck1, bd1, bx1, bx2, aS_at, iS_at, upd_at, ↓reduceIte, Nat.reduceEqDiff, Nat.reduceAdd, Nat.reduceMul, Nat.reduceSub, Nat.reduceDiv, Nat.reduceLT, Nat.reduceLeDiff, Nat.reduceBEq, ne_eq, not_true_eq_false, not_false_eq_true, reduceCtorEq, if_true, if_false, eq_self, Nat.add_zero, Nat.zero_add, lit, lit_nn, I_nat, I_add, I_mul, I_sub, I_div, inb_t, I_ne, I_nn, nn_I, nn_lt, nn_le, lt_nn, le_nn, I_t, I_f, I_lt_t, I_lt_f, isb_0, isb_1, vz_0, vz_1, nn_nat]) h
  unfold fX6_keeps_k26 fX6_keeps_k26_L2
  rw [lit]
  exact h
theorem back_27 (m : St) : ∃ f, fX6_back_k26 m (I 246) = some (pF m 27 f) ∧ ∀ x, x < 48 → f x = m 36 (246 + x) := by
  have h := back_gen (z := 27) (n := 48) (t := 246) (step := fun k a => fX6_back_k26_S2 k (I 246) (a.1) (a.2)) (by omega) (by omega) (by omega) (fun m x hx rec => by
    simp (disch := omega) only [fX6_back_k26_S2, ck1, bd1, bx1, bx2, aS_at, iS_at, upd_at, ↓reduceIte, Nat.reduceEqDiff, Nat.reduceAdd, Nat.reduceMul, Nat.reduceSub, Nat.reduceDiv, Nat.reduceLT, Nat.reduceLeDiff, Nat.reduceBEq, ne_eq, not_true_eq_false, not_false_eq_true, reduceCtorEq, if_true, if_false, eq_self, Nat.add_zero, Nat.zero_add, lit, lit_nn, I_nat, I_add, I_mul, I_sub, I_div, inb_t, I_ne, I_nn, nn_I, nn_lt, nn_le, lt_nn, le_nn, I_t, I_f, I_lt_t, I_lt_f, isb_0, isb_1, vz_0, vz_1, nn_nat]) (fun m rec => by
    simp (disch := omega) only [fX6_back_k26_S2, ck1, bd1, bx1, bx2, aS_at, iS_at, upd_at, ↓reduceIte, Nat.reduceEqDiff, Nat.reduceAdd, Nat.reduceMul, Nat.reduceSub, Nat.reduceDiv, Nat.reduceLT, Nat.reduceLeDiff, Nat.reduceBEq, ne_eq, not_true_eq_false, not_false_eq_true, reduceCtorEq, if_true, if_false, eq_self, Nat.add_zero, Nat.zero_add, lit, lit_nn, I_nat, I_add, I_mul, I_sub, I_div, inb_t, I_ne, I_nn, nn_I, nn_lt, nn_le, lt_nn, le_nn, I_t, I_f, I_lt_t, I_lt_f, isb_0, isb_1, vz_0, vz_1, nn_nat]) m
  unfold fX6_back_k26 fX6_back_k26_L2
  rw [lit]
  exact h
theorem keeps_28 {a m : St} {T : Nat → Int32} (hT : ∀ x, x < 48 → T (294 + x) = a 28 x) (h : Kp T 294 a m) : ∃ m', fX6_keeps_k27 m (I 294) = some m' ∧ Kp T 342 a m' := by
  have h := keep_gen (z := 28) (n := 48) (t := 294) (step := fun k a => fX6_keeps_k27_S2 k (I 294) (a.1) (a.2)) (by omega) (by omega) hT (fun m x hx hm rec => by
    rw [← hm 28 (by omega)]
    simp (disch := omega) only [fX6_keeps_k27_S2, ck1, bd1, bx1, bx2, aS_at, iS_at, upd_at, ↓reduceIte, Nat.reduceEqDiff, Nat.reduceAdd, Nat.reduceMul, Nat.reduceSub, Nat.reduceDiv, Nat.reduceLT, Nat.reduceLeDiff, Nat.reduceBEq, ne_eq, not_true_eq_false, not_false_eq_true, reduceCtorEq, if_true, if_false, eq_self, Nat.add_zero, Nat.zero_add, lit, lit_nn, I_nat, I_add, I_mul, I_sub, I_div, inb_t, I_ne, I_nn, nn_I, nn_lt, nn_le, lt_nn, le_nn, I_t, I_f, I_lt_t, I_lt_f, isb_0, isb_1, vz_0, vz_1, nn_nat]) (fun m rec => by
    simp (disch := omega) only [fX6_keeps_k27_S2, ck1, bd1, bx1, bx2, aS_at, iS_at, upd_at, ↓reduceIte, Nat.reduceEqDiff, Nat.reduceAdd, Nat.reduceMul, Nat.reduceSub, Nat.reduceDiv, Nat.reduceLT, Nat.reduceLeDiff, Nat.reduceBEq, ne_eq, not_true_eq_false, not_false_eq_true, reduceCtorEq, if_true, if_false, eq_self, Nat.add_zero, Nat.zero_add, lit, lit_nn, I_nat, I_add, I_mul, I_sub, I_div, inb_t, I_ne, I_nn, nn_I, nn_lt, nn_le, lt_nn, le_nn, I_t, I_f, I_lt_t, I_lt_f, isb_0, isb_1, vz_0, vz_1, nn_nat]) h
  unfold fX6_keeps_k27 fX6_keeps_k27_L2
  rw [lit]
  exact h
theorem back_28 (m : St) : ∃ f, fX6_back_k27 m (I 294) = some (pF m 28 f) ∧ ∀ x, x < 48 → f x = m 36 (294 + x) := by
  have h := back_gen (z := 28) (n := 48) (t := 294) (step := fun k a => fX6_back_k27_S2 k (I 294) (a.1) (a.2)) (by omega) (by omega) (by omega) (fun m x hx rec => by
    simp (disch := omega) only [fX6_back_k27_S2, ck1, bd1, bx1, bx2, aS_at, iS_at, upd_at, ↓reduceIte, Nat.reduceEqDiff, Nat.reduceAdd, Nat.reduceMul, Nat.reduceSub, Nat.reduceDiv, Nat.reduceLT, Nat.reduceLeDiff, Nat.reduceBEq, ne_eq, not_true_eq_false, not_false_eq_true, reduceCtorEq, if_true, if_false, eq_self, Nat.add_zero, Nat.zero_add, lit, lit_nn, I_nat, I_add, I_mul, I_sub, I_div, inb_t, I_ne, I_nn, nn_I, nn_lt, nn_le, lt_nn, le_nn, I_t, I_f, I_lt_t, I_lt_f, isb_0, isb_1, vz_0, vz_1, nn_nat]) (fun m rec => by
    simp (disch := omega) only [fX6_back_k27_S2, ck1, bd1, bx1, bx2, aS_at, iS_at, upd_at, ↓reduceIte, Nat.reduceEqDiff, Nat.reduceAdd, Nat.reduceMul, Nat.reduceSub, Nat.reduceDiv, Nat.reduceLT, Nat.reduceLeDiff, Nat.reduceBEq, ne_eq, not_true_eq_false, not_false_eq_true, reduceCtorEq, if_true, if_false, eq_self, Nat.add_zero, Nat.zero_add, lit, lit_nn, I_nat, I_add, I_mul, I_sub, I_div, inb_t, I_ne, I_nn, nn_I, nn_lt, nn_le, lt_nn, le_nn, I_t, I_f, I_lt_t, I_lt_f, isb_0, isb_1, vz_0, vz_1, nn_nat]) m
  unfold fX6_back_k27 fX6_back_k27_L2
  rw [lit]
  exact h
theorem like_16 (m : St) : ∃ b, b < 2 ∧ fX6_isLike_k15 m (I 0) = some (I b) ∧ (b = 1 ↔ ∀ x, x < 6 → m 16 x = m 36 (0 + x)) :=
  like_gen (z := 16) (n := 6) (t := 0) (step := fun k a => fX6_isLike_k15_S5 k m (I 0) (a.1) (a.2)) (by omega) (by omega) (fun x hx rec => by
    simp (disch := omega) only [fX6_isLike_k15_S5, ck1, bd1, bx1, bx2, aS_at, iS_at, upd_at, ↓reduceIte, Nat.reduceEqDiff, Nat.reduceAdd, Nat.reduceMul, Nat.reduceSub, Nat.reduceDiv, Nat.reduceLT, Nat.reduceLeDiff, Nat.reduceBEq, ne_eq, not_true_eq_false, not_false_eq_true, reduceCtorEq, if_true, if_false, eq_self, Nat.add_zero, Nat.zero_add, lit, lit_nn, I_nat, I_add, I_mul, I_sub, I_div, inb_t, I_ne, I_nn, nn_I, nn_lt, nn_le, lt_nn, le_nn, I_t, I_f, I_lt_t, I_lt_f, isb_0, isb_1, vz_0, vz_1, nn_nat]) (fun x hx e rec => by
    rw [Nat.zero_add] at e
    simp (disch := omega) only [fX6_isLike_k15_S5, ck1, bd1, bx1, bx2, aS_at, iS_at, upd_at, ↓reduceIte, Nat.reduceEqDiff, Nat.reduceAdd, Nat.reduceMul, Nat.reduceSub, Nat.reduceDiv, Nat.reduceLT, Nat.reduceLeDiff, Nat.reduceBEq, ne_eq, not_true_eq_false, not_false_eq_true, reduceCtorEq, if_true, if_false, eq_self, Nat.add_zero, Nat.zero_add, lit, lit_nn, I_nat, I_add, I_mul, I_sub, I_div, inb_t, I_ne, I_nn, nn_I, nn_lt, nn_le, lt_nn, le_nn, I_t, I_f, I_lt_t, I_lt_f, isb_0, isb_1, vz_0, vz_1, nn_nat, e, I01]) (fun x hx e rec => by
    rw [Nat.zero_add] at e
    simp (disch := omega) only [fX6_isLike_k15_S5, ck1, bd1, bx1, bx2, aS_at, iS_at, upd_at, ↓reduceIte, Nat.reduceEqDiff, Nat.reduceAdd, Nat.reduceMul, Nat.reduceSub, Nat.reduceDiv, Nat.reduceLT, Nat.reduceLeDiff, Nat.reduceBEq, ne_eq, not_true_eq_false, not_false_eq_true, reduceCtorEq, if_true, if_false, eq_self, Nat.add_zero, Nat.zero_add, lit, lit_nn, I_nat, I_add, I_mul, I_sub, I_div, inb_t, I_ne, I_nn, nn_I, nn_lt, nn_le, lt_nn, le_nn, I_t, I_f, I_lt_t, I_lt_f, isb_0, isb_1, vz_0, vz_1, nn_nat, e, I01]) (fun b hb rec => by
    rcases (show b = 0 ∨ b = 1 by omega) with rfl | rfl
    · simp (disch := omega) only [fX6_isLike_k15_S5, ck1, bd1, bx1, bx2, aS_at, iS_at, upd_at, ↓reduceIte, Nat.reduceEqDiff, Nat.reduceAdd, Nat.reduceMul, Nat.reduceSub, Nat.reduceDiv, Nat.reduceLT, Nat.reduceLeDiff, Nat.reduceBEq, ne_eq, not_true_eq_false, not_false_eq_true, reduceCtorEq, if_true, if_false, eq_self, Nat.add_zero, Nat.zero_add, lit, lit_nn, I_nat, I_add, I_mul, I_sub, I_div, inb_t, I_ne, I_nn, nn_I, nn_lt, nn_le, lt_nn, le_nn, I_t, I_f, I_lt_t, I_lt_f, isb_0, isb_1, vz_0, vz_1, nn_nat]
    · simp (disch := omega) only [fX6_isLike_k15_S5, ck1, bd1, bx1, bx2, aS_at, iS_at, upd_at, ↓reduceIte, Nat.reduceEqDiff, Nat.reduceAdd, Nat.reduceMul, Nat.reduceSub, Nat.reduceDiv, Nat.reduceLT, Nat.reduceLeDiff, Nat.reduceBEq, ne_eq, not_true_eq_false, not_false_eq_true, reduceCtorEq, if_true, if_false, eq_self, Nat.add_zero, Nat.zero_add, lit, lit_nn, I_nat, I_add, I_mul, I_sub, I_div, inb_t, I_ne, I_nn, nn_I, nn_lt, nn_le, lt_nn, le_nn, I_t, I_f, I_lt_t, I_lt_f, isb_0, isb_1, vz_0, vz_1, nn_nat])
theorem like_17 (m : St) : ∃ b, b < 2 ∧ fX6_isLike_k16 m (I 6) = some (I b) ∧ (b = 1 ↔ ∀ x, x < 6 → m 17 x = m 36 (6 + x)) :=
  like_gen (z := 17) (n := 6) (t := 6) (step := fun k a => fX6_isLike_k16_S5 k m (I 6) (a.1) (a.2)) (by omega) (by omega) (fun x hx rec => by
    simp (disch := omega) only [fX6_isLike_k16_S5, ck1, bd1, bx1, bx2, aS_at, iS_at, upd_at, ↓reduceIte, Nat.reduceEqDiff, Nat.reduceAdd, Nat.reduceMul, Nat.reduceSub, Nat.reduceDiv, Nat.reduceLT, Nat.reduceLeDiff, Nat.reduceBEq, ne_eq, not_true_eq_false, not_false_eq_true, reduceCtorEq, if_true, if_false, eq_self, Nat.add_zero, Nat.zero_add, lit, lit_nn, I_nat, I_add, I_mul, I_sub, I_div, inb_t, I_ne, I_nn, nn_I, nn_lt, nn_le, lt_nn, le_nn, I_t, I_f, I_lt_t, I_lt_f, isb_0, isb_1, vz_0, vz_1, nn_nat]) (fun x hx e rec => by
    simp (disch := omega) only [fX6_isLike_k16_S5, ck1, bd1, bx1, bx2, aS_at, iS_at, upd_at, ↓reduceIte, Nat.reduceEqDiff, Nat.reduceAdd, Nat.reduceMul, Nat.reduceSub, Nat.reduceDiv, Nat.reduceLT, Nat.reduceLeDiff, Nat.reduceBEq, ne_eq, not_true_eq_false, not_false_eq_true, reduceCtorEq, if_true, if_false, eq_self, Nat.add_zero, Nat.zero_add, lit, lit_nn, I_nat, I_add, I_mul, I_sub, I_div, inb_t, I_ne, I_nn, nn_I, nn_lt, nn_le, lt_nn, le_nn, I_t, I_f, I_lt_t, I_lt_f, isb_0, isb_1, vz_0, vz_1, nn_nat, e, I01]) (fun x hx e rec => by
    simp (disch := omega) only [fX6_isLike_k16_S5, ck1, bd1, bx1, bx2, aS_at, iS_at, upd_at, ↓reduceIte, Nat.reduceEqDiff, Nat.reduceAdd, Nat.reduceMul, Nat.reduceSub, Nat.reduceDiv, Nat.reduceLT, Nat.reduceLeDiff, Nat.reduceBEq, ne_eq, not_true_eq_false, not_false_eq_true, reduceCtorEq, if_true, if_false, eq_self, Nat.add_zero, Nat.zero_add, lit, lit_nn, I_nat, I_add, I_mul, I_sub, I_div, inb_t, I_ne, I_nn, nn_I, nn_lt, nn_le, lt_nn, le_nn, I_t, I_f, I_lt_t, I_lt_f, isb_0, isb_1, vz_0, vz_1, nn_nat, e, I01]) (fun b hb rec => by
    rcases (show b = 0 ∨ b = 1 by omega) with rfl | rfl
    · simp (disch := omega) only [fX6_isLike_k16_S5, ck1, bd1, bx1, bx2, aS_at, iS_at, upd_at, ↓reduceIte, Nat.reduceEqDiff, Nat.reduceAdd, Nat.reduceMul, Nat.reduceSub, Nat.reduceDiv, Nat.reduceLT, Nat.reduceLeDiff, Nat.reduceBEq, ne_eq, not_true_eq_false, not_false_eq_true, reduceCtorEq, if_true, if_false, eq_self, Nat.add_zero, Nat.zero_add, lit, lit_nn, I_nat, I_add, I_mul, I_sub, I_div, inb_t, I_ne, I_nn, nn_I, nn_lt, nn_le, lt_nn, le_nn, I_t, I_f, I_lt_t, I_lt_f, isb_0, isb_1, vz_0, vz_1, nn_nat]
    · simp (disch := omega) only [fX6_isLike_k16_S5, ck1, bd1, bx1, bx2, aS_at, iS_at, upd_at, ↓reduceIte, Nat.reduceEqDiff, Nat.reduceAdd, Nat.reduceMul, Nat.reduceSub, Nat.reduceDiv, Nat.reduceLT, Nat.reduceLeDiff, Nat.reduceBEq, ne_eq, not_true_eq_false, not_false_eq_true, reduceCtorEq, if_true, if_false, eq_self, Nat.add_zero, Nat.zero_add, lit, lit_nn, I_nat, I_add, I_mul, I_sub, I_div, inb_t, I_ne, I_nn, nn_I, nn_lt, nn_le, lt_nn, le_nn, I_t, I_f, I_lt_t, I_lt_f, isb_0, isb_1, vz_0, vz_1, nn_nat])
theorem like_18 (m : St) : ∃ b, b < 2 ∧ fX6_isLike_k17 m (I 12) = some (I b) ∧ (b = 1 ↔ ∀ x, x < 6 → m 18 x = m 36 (12 + x)) :=
  like_gen (z := 18) (n := 6) (t := 12) (step := fun k a => fX6_isLike_k17_S5 k m (I 12) (a.1) (a.2)) (by omega) (by omega) (fun x hx rec => by
    simp (disch := omega) only [fX6_isLike_k17_S5, ck1, bd1, bx1, bx2, aS_at, iS_at, upd_at, ↓reduceIte, Nat.reduceEqDiff, Nat.reduceAdd, Nat.reduceMul, Nat.reduceSub, Nat.reduceDiv, Nat.reduceLT, Nat.reduceLeDiff, Nat.reduceBEq, ne_eq, not_true_eq_false, not_false_eq_true, reduceCtorEq, if_true, if_false, eq_self, Nat.add_zero, Nat.zero_add, lit, lit_nn, I_nat, I_add, I_mul, I_sub, I_div, inb_t, I_ne, I_nn, nn_I, nn_lt, nn_le, lt_nn, le_nn, I_t, I_f, I_lt_t, I_lt_f, isb_0, isb_1, vz_0, vz_1, nn_nat]) (fun x hx e rec => by
    simp (disch := omega) only [fX6_isLike_k17_S5, ck1, bd1, bx1, bx2, aS_at, iS_at, upd_at, ↓reduceIte, Nat.reduceEqDiff, Nat.reduceAdd, Nat.reduceMul, Nat.reduceSub, Nat.reduceDiv, Nat.reduceLT, Nat.reduceLeDiff, Nat.reduceBEq, ne_eq, not_true_eq_false, not_false_eq_true, reduceCtorEq, if_true, if_false, eq_self, Nat.add_zero, Nat.zero_add, lit, lit_nn, I_nat, I_add, I_mul, I_sub, I_div, inb_t, I_ne, I_nn, nn_I, nn_lt, nn_le, lt_nn, le_nn, I_t, I_f, I_lt_t, I_lt_f, isb_0, isb_1, vz_0, vz_1, nn_nat, e, I01]) (fun x hx e rec => by
    simp (disch := omega) only [fX6_isLike_k17_S5, ck1, bd1, bx1, bx2, aS_at, iS_at, upd_at, ↓reduceIte, Nat.reduceEqDiff, Nat.reduceAdd, Nat.reduceMul, Nat.reduceSub, Nat.reduceDiv, Nat.reduceLT, Nat.reduceLeDiff, Nat.reduceBEq, ne_eq, not_true_eq_false, not_false_eq_true, reduceCtorEq, if_true, if_false, eq_self, Nat.add_zero, Nat.zero_add, lit, lit_nn, I_nat, I_add, I_mul, I_sub, I_div, inb_t, I_ne, I_nn, nn_I, nn_lt, nn_le, lt_nn, le_nn, I_t, I_f, I_lt_t, I_lt_f, isb_0, isb_1, vz_0, vz_1, nn_nat, e, I01]) (fun b hb rec => by
    rcases (show b = 0 ∨ b = 1 by omega) with rfl | rfl
    · simp (disch := omega) only [fX6_isLike_k17_S5, ck1, bd1, bx1, bx2, aS_at, iS_at, upd_at, ↓reduceIte, Nat.reduceEqDiff, Nat.reduceAdd, Nat.reduceMul, Nat.reduceSub, Nat.reduceDiv, Nat.reduceLT, Nat.reduceLeDiff, Nat.reduceBEq, ne_eq, not_true_eq_false, not_false_eq_true, reduceCtorEq, if_true, if_false, eq_self, Nat.add_zero, Nat.zero_add, lit, lit_nn, I_nat, I_add, I_mul, I_sub, I_div, inb_t, I_ne, I_nn, nn_I, nn_lt, nn_le, lt_nn, le_nn, I_t, I_f, I_lt_t, I_lt_f, isb_0, isb_1, vz_0, vz_1, nn_nat]
    · simp (disch := omega) only [fX6_isLike_k17_S5, ck1, bd1, bx1, bx2, aS_at, iS_at, upd_at, ↓reduceIte, Nat.reduceEqDiff, Nat.reduceAdd, Nat.reduceMul, Nat.reduceSub, Nat.reduceDiv, Nat.reduceLT, Nat.reduceLeDiff, Nat.reduceBEq, ne_eq, not_true_eq_false, not_false_eq_true, reduceCtorEq, if_true, if_false, eq_self, Nat.add_zero, Nat.zero_add, lit, lit_nn, I_nat, I_add, I_mul, I_sub, I_div, inb_t, I_ne, I_nn, nn_I, nn_lt, nn_le, lt_nn, le_nn, I_t, I_f, I_lt_t, I_lt_f, isb_0, isb_1, vz_0, vz_1, nn_nat])
theorem like_19 (m : St) : ∃ b, b < 2 ∧ fX6_isLike_k18 m (I 18) = some (I b) ∧ (b = 1 ↔ ∀ x, x < 6 → m 19 x = m 36 (18 + x)) :=
  like_gen (z := 19) (n := 6) (t := 18) (step := fun k a => fX6_isLike_k18_S5 k m (I 18) (a.1) (a.2)) (by omega) (by omega) (fun x hx rec => by
    simp (disch := omega) only [fX6_isLike_k18_S5, ck1, bd1, bx1, bx2, aS_at, iS_at, upd_at, ↓reduceIte, Nat.reduceEqDiff, Nat.reduceAdd, Nat.reduceMul, Nat.reduceSub, Nat.reduceDiv, Nat.reduceLT, Nat.reduceLeDiff, Nat.reduceBEq, ne_eq, not_true_eq_false, not_false_eq_true, reduceCtorEq, if_true, if_false, eq_self, Nat.add_zero, Nat.zero_add, lit, lit_nn, I_nat, I_add, I_mul, I_sub, I_div, inb_t, I_ne, I_nn, nn_I, nn_lt, nn_le, lt_nn, le_nn, I_t, I_f, I_lt_t, I_lt_f, isb_0, isb_1, vz_0, vz_1, nn_nat]) (fun x hx e rec => by
    simp (disch := omega) only [fX6_isLike_k18_S5, ck1, bd1, bx1, bx2, aS_at, iS_at, upd_at, ↓reduceIte, Nat.reduceEqDiff, Nat.reduceAdd, Nat.reduceMul, Nat.reduceSub, Nat.reduceDiv, Nat.reduceLT, Nat.reduceLeDiff, Nat.reduceBEq, ne_eq, not_true_eq_false, not_false_eq_true, reduceCtorEq, if_true, if_false, eq_self, Nat.add_zero, Nat.zero_add, lit, lit_nn, I_nat, I_add, I_mul, I_sub, I_div, inb_t, I_ne, I_nn, nn_I, nn_lt, nn_le, lt_nn, le_nn, I_t, I_f, I_lt_t, I_lt_f, isb_0, isb_1, vz_0, vz_1, nn_nat, e, I01]) (fun x hx e rec => by
    simp (disch := omega) only [fX6_isLike_k18_S5, ck1, bd1, bx1, bx2, aS_at, iS_at, upd_at, ↓reduceIte, Nat.reduceEqDiff, Nat.reduceAdd, Nat.reduceMul, Nat.reduceSub, Nat.reduceDiv, Nat.reduceLT, Nat.reduceLeDiff, Nat.reduceBEq, ne_eq, not_true_eq_false, not_false_eq_true, reduceCtorEq, if_true, if_false, eq_self, Nat.add_zero, Nat.zero_add, lit, lit_nn, I_nat, I_add, I_mul, I_sub, I_div, inb_t, I_ne, I_nn, nn_I, nn_lt, nn_le, lt_nn, le_nn, I_t, I_f, I_lt_t, I_lt_f, isb_0, isb_1, vz_0, vz_1, nn_nat, e, I01]) (fun b hb rec => by
    rcases (show b = 0 ∨ b = 1 by omega) with rfl | rfl
    · simp (disch := omega) only [fX6_isLike_k18_S5, ck1, bd1, bx1, bx2, aS_at, iS_at, upd_at, ↓reduceIte, Nat.reduceEqDiff, Nat.reduceAdd, Nat.reduceMul, Nat.reduceSub, Nat.reduceDiv, Nat.reduceLT, Nat.reduceLeDiff, Nat.reduceBEq, ne_eq, not_true_eq_false, not_false_eq_true, reduceCtorEq, if_true, if_false, eq_self, Nat.add_zero, Nat.zero_add, lit, lit_nn, I_nat, I_add, I_mul, I_sub, I_div, inb_t, I_ne, I_nn, nn_I, nn_lt, nn_le, lt_nn, le_nn, I_t, I_f, I_lt_t, I_lt_f, isb_0, isb_1, vz_0, vz_1, nn_nat]
    · simp (disch := omega) only [fX6_isLike_k18_S5, ck1, bd1, bx1, bx2, aS_at, iS_at, upd_at, ↓reduceIte, Nat.reduceEqDiff, Nat.reduceAdd, Nat.reduceMul, Nat.reduceSub, Nat.reduceDiv, Nat.reduceLT, Nat.reduceLeDiff, Nat.reduceBEq, ne_eq, not_true_eq_false, not_false_eq_true, reduceCtorEq, if_true, if_false, eq_self, Nat.add_zero, Nat.zero_add, lit, lit_nn, I_nat, I_add, I_mul, I_sub, I_div, inb_t, I_ne, I_nn, nn_I, nn_lt, nn_le, lt_nn, le_nn, I_t, I_f, I_lt_t, I_lt_f, isb_0, isb_1, vz_0, vz_1, nn_nat])
theorem like_13 (m : St) : ∃ b, b < 2 ∧ fX6_isLike_k12 m (I 24) = some (I b) ∧ (b = 1 ↔ ∀ x, x < 30 → m 13 x = m 36 (24 + x)) :=
  like_gen (z := 13) (n := 30) (t := 24) (step := fun k a => fX6_isLike_k12_S5 k m (I 24) (a.1) (a.2)) (by omega) (by omega) (fun x hx rec => by
    simp (disch := omega) only [fX6_isLike_k12_S5, ck1, bd1, bx1, bx2, aS_at, iS_at, upd_at, ↓reduceIte, Nat.reduceEqDiff, Nat.reduceAdd, Nat.reduceMul, Nat.reduceSub, Nat.reduceDiv, Nat.reduceLT, Nat.reduceLeDiff, Nat.reduceBEq, ne_eq, not_true_eq_false, not_false_eq_true, reduceCtorEq, if_true, if_false, eq_self, Nat.add_zero, Nat.zero_add, lit, lit_nn, I_nat, I_add, I_mul, I_sub, I_div, inb_t, I_ne, I_nn, nn_I, nn_lt, nn_le, lt_nn, le_nn, I_t, I_f, I_lt_t, I_lt_f, isb_0, isb_1, vz_0, vz_1, nn_nat]) (fun x hx e rec => by
    simp (disch := omega) only [fX6_isLike_k12_S5, ck1, bd1, bx1, bx2, aS_at, iS_at, upd_at, ↓reduceIte, Nat.reduceEqDiff, Nat.reduceAdd, Nat.reduceMul, Nat.reduceSub, Nat.reduceDiv, Nat.reduceLT, Nat.reduceLeDiff, Nat.reduceBEq, ne_eq, not_true_eq_false, not_false_eq_true, reduceCtorEq, if_true, if_false, eq_self, Nat.add_zero, Nat.zero_add, lit, lit_nn, I_nat, I_add, I_mul, I_sub, I_div, inb_t, I_ne, I_nn, nn_I, nn_lt, nn_le, lt_nn, le_nn, I_t, I_f, I_lt_t, I_lt_f, isb_0, isb_1, vz_0, vz_1, nn_nat, e, I01]) (fun x hx e rec => by
    simp (disch := omega) only [fX6_isLike_k12_S5, ck1, bd1, bx1, bx2, aS_at, iS_at, upd_at, ↓reduceIte, Nat.reduceEqDiff, Nat.reduceAdd, Nat.reduceMul, Nat.reduceSub, Nat.reduceDiv, Nat.reduceLT, Nat.reduceLeDiff, Nat.reduceBEq, ne_eq, not_true_eq_false, not_false_eq_true, reduceCtorEq, if_true, if_false, eq_self, Nat.add_zero, Nat.zero_add, lit, lit_nn, I_nat, I_add, I_mul, I_sub, I_div, inb_t, I_ne, I_nn, nn_I, nn_lt, nn_le, lt_nn, le_nn, I_t, I_f, I_lt_t, I_lt_f, isb_0, isb_1, vz_0, vz_1, nn_nat, e, I01]) (fun b hb rec => by
    rcases (show b = 0 ∨ b = 1 by omega) with rfl | rfl
    · simp (disch := omega) only [fX6_isLike_k12_S5, ck1, bd1, bx1, bx2, aS_at, iS_at, upd_at, ↓reduceIte, Nat.reduceEqDiff, Nat.reduceAdd, Nat.reduceMul, Nat.reduceSub, Nat.reduceDiv, Nat.reduceLT, Nat.reduceLeDiff, Nat.reduceBEq, ne_eq, not_true_eq_false, not_false_eq_true, reduceCtorEq, if_true, if_false, eq_self, Nat.add_zero, Nat.zero_add, lit, lit_nn, I_nat, I_add, I_mul, I_sub, I_div, inb_t, I_ne, I_nn, nn_I, nn_lt, nn_le, lt_nn, le_nn, I_t, I_f, I_lt_t, I_lt_f, isb_0, isb_1, vz_0, vz_1, nn_nat]
    · simp (disch := omega) only [fX6_isLike_k12_S5, ck1, bd1, bx1, bx2, aS_at, iS_at, upd_at, ↓reduceIte, Nat.reduceEqDiff, Nat.reduceAdd, Nat.reduceMul, Nat.reduceSub, Nat.reduceDiv, Nat.reduceLT, Nat.reduceLeDiff, Nat.reduceBEq, ne_eq, not_true_eq_false, not_false_eq_true, reduceCtorEq, if_true, if_false, eq_self, Nat.add_zero, Nat.zero_add, lit, lit_nn, I_nat, I_add, I_mul, I_sub, I_div, inb_t, I_ne, I_nn, nn_I, nn_lt, nn_le, lt_nn, le_nn, I_t, I_f, I_lt_t, I_lt_f, isb_0, isb_1, vz_0, vz_1, nn_nat])

/-! ===== at rest ===== -/
def Wt (m : St) (k : Nat) : Prop := m 12 k = I 0 ∧ m 10 k = I 0 ∧ (m 13 k = I 1 ∨ m 13 k = I 2)
theorem rest_loop (m : St) (x1 : Int32) {b : Nat} (hb : b < 2) : ∃ v, v < 2 ∧ fX6_isAtRest_L91 m x1 (I b) (I 0) = fX6_isAtRest_J178 m x1 (I v) ∧ (v = 1 ↔ b = 1 ∧ ∀ k, k < 30 → m 12 k = m 37 k ∧ ¬ Wt m k) := by
  obtain ⟨v, ⟨u1, u2⟩, hl⟩ := loop_up (σ := Nat) (step := fun k a => fX6_isAtRest_S91 k m x1 (a.1) (a.2)) (fun t v => (I v, I t)) 30 (fun t v => v < 2 ∧ (v = 1 ↔ b = 1 ∧ ∀ k, k < t → m 12 k = m 37 k ∧ ¬ Wt m k)) (fun v => fX6_isAtRest_J178 m x1 (I v))
    (by
      intro t v ht ⟨u1, u2⟩
      have low : ∀ w, w < 2 → (w = 1 ↔ v = 1 ∧ m 12 t = m 37 t ∧ ¬ Wt m t) → (w < 2 ∧ (w = 1 ↔ b = 1 ∧ ∀ k, k < t + 1 → m 12 k = m 37 k ∧ ¬ Wt m k)) := by
        intro w hw e
        refine ⟨hw, e.trans ⟨fun ⟨q1, q2⟩ => ⟨(u2.mp q1).1, fun k hk => ?_⟩, fun ⟨q1, q2⟩ => ⟨u2.mpr ⟨q1, fun k hk => q2 k (by omega)⟩, q2 t (by omega)⟩⟩⟩
        by_cases d : k = t
        · rw [d]; exact q2
        · exact (u2.mp q1).2 k (by omega)
      rcases (show v = 0 ∨ v = 1 by omega) with rfl | rfl
      · refine ⟨0, low 0 (by omega) ⟨fun e => by omega, fun e => by omega⟩, fun rec => ?_⟩
        by_cases z1 : m 12 t = I 0
        · by_cases z2 : m 10 t = I 0
          · by_cases z3 : m 13 t = I 1
            · simp (disch := omega) only [fX6_isAtRest_S91, fX6_isAtRest_J139, fX6_isAtRest_J140, ck1, bd1, bx1, bx2, aS_at, iS_at, upd_at, ↓reduceIte, Nat.reduceEqDiff, Nat.reduceAdd, Nat.reduceMul, Nat.reduceSub, Nat.reduceDiv, Nat.reduceLT, Nat.reduceLeDiff, Nat.reduceBEq, ne_eq, not_true_eq_false, not_false_eq_true, reduceCtorEq, if_true, if_false, eq_self, Nat.add_zero, Nat.zero_add, lit, lit_nn, I_nat, I_add, I_mul, I_sub, I_div, inb_t, I_ne, I_nn, nn_I, nn_lt, nn_le, lt_nn, le_nn, I_t, I_f, I_lt_t, I_lt_f, isb_0, isb_1, vz_0, vz_1, nn_nat, z1, z2, z3]
            · by_cases z4 : m 13 t = I 2
              · simp (disch := omega) only [fX6_isAtRest_S91, fX6_isAtRest_J139, fX6_isAtRest_J140, ck1, bd1, bx1, bx2, aS_at, iS_at, upd_at, ↓reduceIte, Nat.reduceEqDiff, Nat.reduceAdd, Nat.reduceMul, Nat.reduceSub, Nat.reduceDiv, Nat.reduceLT, Nat.reduceLeDiff, Nat.reduceBEq, ne_eq, not_true_eq_false, not_false_eq_true, reduceCtorEq, if_true, if_false, eq_self, Nat.add_zero, Nat.zero_add, lit, lit_nn, I_nat, I_add, I_mul, I_sub, I_div, inb_t, I_ne, I_nn, nn_I, nn_lt, nn_le, lt_nn, le_nn, I_t, I_f, I_lt_t, I_lt_f, isb_0, isb_1, vz_0, vz_1, nn_nat, z1, z2, z4]
              · simp (disch := omega) only [fX6_isAtRest_S91, fX6_isAtRest_J139, fX6_isAtRest_J140, ck1, bd1, bx1, bx2, aS_at, iS_at, upd_at, ↓reduceIte, Nat.reduceEqDiff, Nat.reduceAdd, Nat.reduceMul, Nat.reduceSub, Nat.reduceDiv, Nat.reduceLT, Nat.reduceLeDiff, Nat.reduceBEq, ne_eq, not_true_eq_false, not_false_eq_true, reduceCtorEq, if_true, if_false, eq_self, Nat.add_zero, Nat.zero_add, lit, lit_nn, I_nat, I_add, I_mul, I_sub, I_div, inb_t, I_ne, I_nn, nn_I, nn_lt, nn_le, lt_nn, le_nn, I_t, I_f, I_lt_t, I_lt_f, isb_0, isb_1, vz_0, vz_1, nn_nat, z1, z2, z3, z4]
          · simp (disch := omega) only [fX6_isAtRest_S91, fX6_isAtRest_J139, fX6_isAtRest_J140, ck1, bd1, bx1, bx2, aS_at, iS_at, upd_at, ↓reduceIte, Nat.reduceEqDiff, Nat.reduceAdd, Nat.reduceMul, Nat.reduceSub, Nat.reduceDiv, Nat.reduceLT, Nat.reduceLeDiff, Nat.reduceBEq, ne_eq, not_true_eq_false, not_false_eq_true, reduceCtorEq, if_true, if_false, eq_self, Nat.add_zero, Nat.zero_add, lit, lit_nn, I_nat, I_add, I_mul, I_sub, I_div, inb_t, I_ne, I_nn, nn_I, nn_lt, nn_le, lt_nn, le_nn, I_t, I_f, I_lt_t, I_lt_f, isb_0, isb_1, vz_0, vz_1, nn_nat, z1, z2]
        · simp (disch := omega) only [fX6_isAtRest_S91, fX6_isAtRest_J139, fX6_isAtRest_J140, ck1, bd1, bx1, bx2, aS_at, iS_at, upd_at, ↓reduceIte, Nat.reduceEqDiff, Nat.reduceAdd, Nat.reduceMul, Nat.reduceSub, Nat.reduceDiv, Nat.reduceLT, Nat.reduceLeDiff, Nat.reduceBEq, ne_eq, not_true_eq_false, not_false_eq_true, reduceCtorEq, if_true, if_false, eq_self, Nat.add_zero, Nat.zero_add, lit, lit_nn, I_nat, I_add, I_mul, I_sub, I_div, inb_t, I_ne, I_nn, nn_I, nn_lt, nn_le, lt_nn, le_nn, I_t, I_f, I_lt_t, I_lt_f, isb_0, isb_1, vz_0, vz_1, nn_nat, z1]
      · have nw : ¬ Wt m t → (∀ rec, fX6_isAtRest_S91 rec m x1 (I 1) (I t) = fX6_isAtRest_J140 rec m x1 (I 1) (I t) (I 0)) → ∃ s', (s' < 2 ∧ (s' = 1 ↔ b = 1 ∧ ∀ k, k < t + 1 → m 12 k = m 37 k ∧ ¬ Wt m k)) ∧ ∀ rec, fX6_isAtRest_S91 rec m x1 (I 1) (I t) = rec (I s', I (t + 1)) := by
          intro nw ev
          by_cases y : m 12 t = m 37 t
          · refine ⟨1, low 1 (by omega) ⟨fun _ => ⟨rfl, y, nw⟩, fun _ => rfl⟩, fun rec => (ev rec).trans ?_⟩
            simp (disch := omega) only [fX6_isAtRest_J140, ck1, bd1, bx1, bx2, aS_at, iS_at, upd_at, ↓reduceIte, Nat.reduceEqDiff, Nat.reduceAdd, Nat.reduceMul, Nat.reduceSub, Nat.reduceDiv, Nat.reduceLT, Nat.reduceLeDiff, Nat.reduceBEq, ne_eq, not_true_eq_false, not_false_eq_true, reduceCtorEq, if_true, if_false, eq_self, Nat.add_zero, Nat.zero_add, lit, lit_nn, I_nat, I_add, I_mul, I_sub, I_div, inb_t, I_ne, I_nn, nn_I, nn_lt, nn_le, lt_nn, le_nn, I_t, I_f, I_lt_t, I_lt_f, isb_0, isb_1, vz_0, vz_1, nn_nat, y, I01]
          · refine ⟨0, low 0 (by omega) ⟨fun e => by omega, fun e => absurd e.2.1 y⟩, fun rec => (ev rec).trans ?_⟩
            simp (disch := omega) only [fX6_isAtRest_J140, ck1, bd1, bx1, bx2, aS_at, iS_at, upd_at, ↓reduceIte, Nat.reduceEqDiff, Nat.reduceAdd, Nat.reduceMul, Nat.reduceSub, Nat.reduceDiv, Nat.reduceLT, Nat.reduceLeDiff, Nat.reduceBEq, ne_eq, not_true_eq_false, not_false_eq_true, reduceCtorEq, if_true, if_false, eq_self, Nat.add_zero, Nat.zero_add, lit, lit_nn, I_nat, I_add, I_mul, I_sub, I_div, inb_t, I_ne, I_nn, nn_I, nn_lt, nn_le, lt_nn, le_nn, I_t, I_f, I_lt_t, I_lt_f, isb_0, isb_1, vz_0, vz_1, nn_nat, y, I01]
        have yw : Wt m t → (∀ rec, fX6_isAtRest_S91 rec m x1 (I 1) (I t) = fX6_isAtRest_J140 rec m x1 (I 1) (I t) (I 1)) → ∃ s', (s' < 2 ∧ (s' = 1 ↔ b = 1 ∧ ∀ k, k < t + 1 → m 12 k = m 37 k ∧ ¬ Wt m k)) ∧ ∀ rec, fX6_isAtRest_S91 rec m x1 (I 1) (I t) = rec (I s', I (t + 1)) := by
          intro nw ev
          refine ⟨0, low 0 (by omega) ⟨fun e => by omega, fun e => absurd nw e.2.2⟩, fun rec => (ev rec).trans ?_⟩
          by_cases y : m 12 t = m 37 t
          · simp (disch := omega) only [fX6_isAtRest_J140, ck1, bd1, bx1, bx2, aS_at, iS_at, upd_at, ↓reduceIte, Nat.reduceEqDiff, Nat.reduceAdd, Nat.reduceMul, Nat.reduceSub, Nat.reduceDiv, Nat.reduceLT, Nat.reduceLeDiff, Nat.reduceBEq, ne_eq, not_true_eq_false, not_false_eq_true, reduceCtorEq, if_true, if_false, eq_self, Nat.add_zero, Nat.zero_add, lit, lit_nn, I_nat, I_add, I_mul, I_sub, I_div, inb_t, I_ne, I_nn, nn_I, nn_lt, nn_le, lt_nn, le_nn, I_t, I_f, I_lt_t, I_lt_f, isb_0, isb_1, vz_0, vz_1, nn_nat, y, I01]
          · simp (disch := omega) only [fX6_isAtRest_J140, ck1, bd1, bx1, bx2, aS_at, iS_at, upd_at, ↓reduceIte, Nat.reduceEqDiff, Nat.reduceAdd, Nat.reduceMul, Nat.reduceSub, Nat.reduceDiv, Nat.reduceLT, Nat.reduceLeDiff, Nat.reduceBEq, ne_eq, not_true_eq_false, not_false_eq_true, reduceCtorEq, if_true, if_false, eq_self, Nat.add_zero, Nat.zero_add, lit, lit_nn, I_nat, I_add, I_mul, I_sub, I_div, inb_t, I_ne, I_nn, nn_I, nn_lt, nn_le, lt_nn, le_nn, I_t, I_f, I_lt_t, I_lt_f, isb_0, isb_1, vz_0, vz_1, nn_nat, y, I01]
        by_cases z1 : m 12 t = I 0
        · by_cases z2 : m 10 t = I 0
          · by_cases z3 : m 13 t = I 1
            · refine yw ⟨z1, z2, Or.inl z3⟩ fun rec => ?_
              simp (disch := omega) only [fX6_isAtRest_S91, ck1, bd1, bx1, bx2, aS_at, iS_at, upd_at, ↓reduceIte, Nat.reduceEqDiff, Nat.reduceAdd, Nat.reduceMul, Nat.reduceSub, Nat.reduceDiv, Nat.reduceLT, Nat.reduceLeDiff, Nat.reduceBEq, ne_eq, not_true_eq_false, not_false_eq_true, reduceCtorEq, if_true, if_false, eq_self, Nat.add_zero, Nat.zero_add, lit, lit_nn, I_nat, I_add, I_mul, I_sub, I_div, inb_t, I_ne, I_nn, nn_I, nn_lt, nn_le, lt_nn, le_nn, I_t, I_f, I_lt_t, I_lt_f, isb_0, isb_1, vz_0, vz_1, nn_nat, z1, z2, z3]
            · by_cases z4 : m 13 t = I 2
              · refine yw ⟨z1, z2, Or.inr z4⟩ fun rec => ?_
                simp (disch := omega) only [fX6_isAtRest_S91, ck1, bd1, bx1, bx2, aS_at, iS_at, upd_at, ↓reduceIte, Nat.reduceEqDiff, Nat.reduceAdd, Nat.reduceMul, Nat.reduceSub, Nat.reduceDiv, Nat.reduceLT, Nat.reduceLeDiff, Nat.reduceBEq, ne_eq, not_true_eq_false, not_false_eq_true, reduceCtorEq, if_true, if_false, eq_self, Nat.add_zero, Nat.zero_add, lit, lit_nn, I_nat, I_add, I_mul, I_sub, I_div, inb_t, I_ne, I_nn, nn_I, nn_lt, nn_le, lt_nn, le_nn, I_t, I_f, I_lt_t, I_lt_f, isb_0, isb_1, vz_0, vz_1, nn_nat, z1, z2, z4]
              · refine nw (fun w => w.2.2.elim z3 z4) fun rec => ?_
                simp (disch := omega) only [fX6_isAtRest_S91, fX6_isAtRest_J139, ck1, bd1, bx1, bx2, aS_at, iS_at, upd_at, ↓reduceIte, Nat.reduceEqDiff, Nat.reduceAdd, Nat.reduceMul, Nat.reduceSub, Nat.reduceDiv, Nat.reduceLT, Nat.reduceLeDiff, Nat.reduceBEq, ne_eq, not_true_eq_false, not_false_eq_true, reduceCtorEq, if_true, if_false, eq_self, Nat.add_zero, Nat.zero_add, lit, lit_nn, I_nat, I_add, I_mul, I_sub, I_div, inb_t, I_ne, I_nn, nn_I, nn_lt, nn_le, lt_nn, le_nn, I_t, I_f, I_lt_t, I_lt_f, isb_0, isb_1, vz_0, vz_1, nn_nat, z1, z2, z3, z4]
          · refine nw (fun w => z2 w.2.1) fun rec => ?_
            simp (disch := omega) only [fX6_isAtRest_S91, fX6_isAtRest_J139, ck1, bd1, bx1, bx2, aS_at, iS_at, upd_at, ↓reduceIte, Nat.reduceEqDiff, Nat.reduceAdd, Nat.reduceMul, Nat.reduceSub, Nat.reduceDiv, Nat.reduceLT, Nat.reduceLeDiff, Nat.reduceBEq, ne_eq, not_true_eq_false, not_false_eq_true, reduceCtorEq, if_true, if_false, eq_self, Nat.add_zero, Nat.zero_add, lit, lit_nn, I_nat, I_add, I_mul, I_sub, I_div, inb_t, I_ne, I_nn, nn_I, nn_lt, nn_le, lt_nn, le_nn, I_t, I_f, I_lt_t, I_lt_f, isb_0, isb_1, vz_0, vz_1, nn_nat, z1, z2]
        · refine nw (fun w => z1 w.1) fun rec => ?_
          simp (disch := omega) only [fX6_isAtRest_S91, fX6_isAtRest_J139, ck1, bd1, bx1, bx2, aS_at, iS_at, upd_at, ↓reduceIte, Nat.reduceEqDiff, Nat.reduceAdd, Nat.reduceMul, Nat.reduceSub, Nat.reduceDiv, Nat.reduceLT, Nat.reduceLeDiff, Nat.reduceBEq, ne_eq, not_true_eq_false, not_false_eq_true, reduceCtorEq, if_true, if_false, eq_self, Nat.add_zero, Nat.zero_add, lit, lit_nn, I_nat, I_add, I_mul, I_sub, I_div, inb_t, I_ne, I_nn, nn_I, nn_lt, nn_le, lt_nn, le_nn, I_t, I_f, I_lt_t, I_lt_f, isb_0, isb_1, vz_0, vz_1, nn_nat, z1])
    (by
      intro v _ rec
      simp (disch := omega) only [fX6_isAtRest_S91, ck1, bd1, bx1, bx2, aS_at, iS_at, upd_at, ↓reduceIte, Nat.reduceEqDiff, Nat.reduceAdd, Nat.reduceMul, Nat.reduceSub, Nat.reduceDiv, Nat.reduceLT, Nat.reduceLeDiff, Nat.reduceBEq, ne_eq, not_true_eq_false, not_false_eq_true, reduceCtorEq, if_true, if_false, eq_self, Nat.add_zero, Nat.zero_add, lit, lit_nn, I_nat, I_add, I_mul, I_sub, I_div, inb_t, I_ne, I_nn, nn_I, nn_lt, nn_le, lt_nn, le_nn, I_t, I_f, I_lt_t, I_lt_f, isb_0, isb_1, vz_0, vz_1, nn_nat])
    30 0 b 1000 (by omega) (by omega) ⟨hb, fun e => ⟨e, fun k hk => by omega⟩, fun e => e.1⟩
  exact ⟨v, u1, hl, u2⟩
theorem likes (mm1 : St) (x : Int32) : ∃ b, b < 2 ∧ (bd (fX6_isLike_k15 mm1 (I 0)) <| fun q25 => if q25 = I 0 then fX6_isAtRest_J87 mm1 x else bd (fX6_isLike_k16 mm1 (I 6)) <| fun q38 => if q38 = I 0 then fX6_isAtRest_J87 mm1 x else bd (fX6_isLike_k17 mm1 (I 12)) <| fun q51 => if q51 = I 0 then fX6_isAtRest_J87 mm1 x else bd (fX6_isLike_k18 mm1 (I 18)) <| fun q64 => if q64 = I 0 then fX6_isAtRest_J87 mm1 x else bd (fX6_isLike_k12 mm1 (I 24)) <| fun q77 => if q77 = I 0 then fX6_isAtRest_J87 mm1 x else fX6_isAtRest_J88 mm1 x (I 1)) = fX6_isAtRest_L91 mm1 x (I b) (I 0) ∧ (b = 1 ↔ (∀ x, x < 6 → mm1 16 x = mm1 36 (0 + x)) ∧ (∀ x, x < 6 → mm1 17 x = mm1 36 (6 + x)) ∧ (∀ x, x < 6 → mm1 18 x = mm1 36 (12 + x)) ∧ (∀ x, x < 6 → mm1 19 x = mm1 36 (18 + x)) ∧ (∀ x, x < 30 → mm1 13 x = mm1 36 (24 + x))) := by
  have j87 : fX6_isAtRest_J87 mm1 x = fX6_isAtRest_L91 mm1 x (I 0) (I 0) := by
    unfold fX6_isAtRest_J87 fX6_isAtRest_J88
    rw [lit]
  have j88 : fX6_isAtRest_J88 mm1 x (I 1) = fX6_isAtRest_L91 mm1 x (I 1) (I 0) := by
    unfold fX6_isAtRest_J88
    rw [lit]
  obtain ⟨a1, b1, c1, d1⟩ := like_16 mm1
  obtain ⟨a2, b2, c2, d2⟩ := like_17 mm1
  obtain ⟨a3, b3, c3, d3⟩ := like_18 mm1
  obtain ⟨a4, b4, c4, d4⟩ := like_19 mm1
  obtain ⟨a5, b5, c5, d5⟩ := like_13 mm1
  rw [c1, bd1, ← d1, ← d2, ← d3, ← d4, ← d5]
  rcases (show a1 = 0 ∨ a1 = 1 by omega) with rfl | rfl
  · exact ⟨0, by omega, by rw [if_pos rfl, j87], fun e => by omega, fun e => by omega⟩
  · rw [if_neg (by rw [I01]; exact id), c2, bd1]
    rcases (show a2 = 0 ∨ a2 = 1 by omega) with rfl | rfl
    · exact ⟨0, by omega, by rw [if_pos rfl, j87], fun e => by omega, fun e => by omega⟩
    · rw [if_neg (by rw [I01]; exact id), c3, bd1]
      rcases (show a3 = 0 ∨ a3 = 1 by omega) with rfl | rfl
      · exact ⟨0, by omega, by rw [if_pos rfl, j87], fun e => by omega, fun e => by omega⟩
      · rw [if_neg (by rw [I01]; exact id), c4, bd1]
        rcases (show a4 = 0 ∨ a4 = 1 by omega) with rfl | rfl
        · exact ⟨0, by omega, by rw [if_pos rfl, j87], fun e => by omega, fun e => by omega⟩
        · rw [if_neg (by rw [I01]; exact id), c5, bd1]
          rcases (show a5 = 0 ∨ a5 = 1 by omega) with rfl | rfl
          · exact ⟨0, by omega, by rw [if_pos rfl, j87], fun e => by omega, fun e => by omega⟩
          · exact ⟨1, by omega, by rw [if_neg (by rw [I01]; exact id), j88], fun _ => ⟨rfl, rfl, rfl, rfl, rfl⟩, fun _ => rfl⟩
set_option maxHeartbeats 1000000 in
theorem sim_rest {N : Nat} {cs cw ct cl cb mm : St} (h : Rel N cs cw ct cl cb mm) (hN : N + 2 ≤ 100000) (cu : St) : ∃ v cu' m', v < 2 ∧ fX5_isAtRest cw ct cu = some (I v, cu') ∧ fX6_isAtRest mm = some (I v, m') ∧ Rel N cs cw ct cl cb m' := by
  have h0 : Rel N cs cw ct cl cb (iS mm 40 (I 0)) := h
  -- the reference keeps
  obtain ⟨mA, a1, a2, a3⟩ := rows_keep (iS mm 40 (I 0))
  have aq : ∀ q, q ≤ 30 → mA q = mm q := fun q hq => by rw [a2 q (by omega), iS_at, if_neg (by omega)]
  have i12 : ∀ k, k < 30 → isI 2 (mm 12 k) := fun k hk => (h.2.2.2.2.2.2.2.1 k hk).2.1
  have i10 : ∀ k, k < 30 → isI 2 (mm 10 k) := fun k hk => (h.2.2.2.2.2.2.2.1 k hk).1
  obtain ⟨fl, b1, b2⟩ := flags_keep mA (fun k hk => by rw [aq 12 (by omega)]; exact i12 k hk) (fun k hk => by rw [aq 10 (by omega)]; exact i10 k hk)
  obtain ⟨mK, eK⟩ : ∃ mK, mK = pF mA 37 fl := ⟨_, rfl⟩
  have kq : ∀ q, q ≤ 30 → mK q = mm q := fun q hq => by rw [eK, pF_at, if_neg (by omega)]; exact aq q hq
  have hK : Rel N cs cw ct cl cb mK := h.eqm (fun q hq => kq q (by omega)) (by rw [kq 0 (by omega)]) (fun k _ => by rw [kq 10 (by omega)]) (fun k _ => by rw [kq 12 (by omega)]) (fun y hy => by unfold TT; rw [kq 16 (by omega), kq 17 (by omega), kq 18 (by omega), kq 19 (by omega), kq 13 (by omega), kq 14 (by omega), kq 11 (by omega), kq 15 (by omega), kq 24 (by omega), kq 25 (by omega), kq 26 (by omega), kq 27 (by omega), kq 28 (by omega)])
  -- the class copies
  have i6 : ∀ k, k < 30 → isI 2 (ct 6 k) := fun k hk => by rw [(h.2.2.2.2.2.2.2.2.2.2.2.2.2.2.2.1 k hk).1]; exact i12 k hk
  obtain ⟨c, c1, c2, c3⟩ := copy_eq cu ct i6
  have hc : Rel N cs cw c cl cb mK := hK.eqc (fun q x y1 y2 y3 => c2.1 q x y1 y2 y3) (fun q x y1 y2 y3 => c2.2 q x y1 y2 y3) c3
  -- a beat on both
  obtain ⟨cs', cN, cb', mN, d1, -, d3, d4, d5, d6, d7⟩ := beat_one hc hN
  have n36 : ∀ y, y < 342 → mN 36 y = TT mm y := fun y hy => by
    rw [d5 36 (by omega), eK, pF_at, if_neg (by omega), a3 y hy]
    rfl
  have n37 : ∀ k, k < 30 → mN 37 k = mm 12 k ∧ mN 37 (30 + k) = mm 10 k := fun k hk => by
    rw [d5 37 (by omega), eK, pF_at, if_pos rfl, (b2 k hk).1, (b2 k hk).2, aq 12 (by omega), aq 10 (by omega)]
    exact ⟨rfl, rfl⟩
  -- the reference's rows come back
  obtain ⟨mB, r1, r2, r3⟩ := rows_back (iS mN 0 (mm 0 0))
  have rq : ∀ q, ¬ BQ q → q ≠ 0 → mB q = mN q := fun q hq h0 => by rw [r2 q hq, iS_at, if_neg h0]
  have r37 : mB 37 = mN 37 := rq 37 (by unfold BQ; omega) (by omega)
  obtain ⟨f, g, e, s1, s2⟩ := flags_back mB (fun k hk => by
    rw [r37]
    by_cases z : k < 30
    · rw [(n37 k z).1]; exact i12 k z
    · obtain ⟨x, rfl⟩ : ∃ x, k = 30 + x := ⟨k - 30, by omega⟩
      rw [(n37 x (by omega)).2]; exact i10 x (by omega))
  have hE : Rel N cs cw ct cl cb (p3 mB 12 10 37 f g e) := by
    refine h.eqm (fun q hq => ?_) ?_ (fun k hk => ?_) (fun k hk => ?_) (fun y hy => ?_)
    · rw [p3_at, if_neg (by omega), if_neg (by omega), if_neg (by omega), rq q (by unfold BQ; omega) (by omega), d5 q (by omega), kq q (by omega)]
    · show mB 0 0 = mm 0 0
      rw [r2 0 (by unfold BQ; omega)]
      rfl
    · show g k = mm 10 k
      rw [(s2 k hk).2, r37, (n37 k hk).2]
    · show f k = mm 12 k
      rw [(s2 k hk).1, r37, (n37 k hk).1]
    · show TT mB y = TT mm y
      rw [r3 y hy]
      exact n36 y hy
  -- what each says
  obtain ⟨b, l1, l2, l3⟩ := likes mN (mm 0 0)
  obtain ⟨v, v1, v2, v3⟩ := rest_loop mN (mm 0 0) l1
  obtain ⟨w, w1, w2, w3⟩ := looks_eq cN ct
  have tree := d4.2.2.2.2.2.2.2.2.2.2.2.2.2.2.1
  have tree0 := h.2.2.2.2.2.2.2.2.2.2.2.2.2.2.1
  have port := d4.2.2.2.2.2.2.2.2.2.2.2.2.2.2.2.1
  have port0 := h.2.2.2.2.2.2.2.2.2.2.2.2.2.2.2.1
  have pp := d4.2.2.2.2.2.2.2.1
  have pp0 := h.2.2.2.2.2.2.2.1
  have w8 : ∀ k, k < 30 → ∃ q, q < 2147483648 ∧ cN 8 k = I q := by
    intro k hk
    obtain ⟨-, -, -, -, -, x6, x7, x8⟩ := port k hk
    obtain ⟨y1, y2, -, -, -, -, -, -, q, y9, y10, -⟩ := pp k hk
    by_cases z : mN 3 k = nn
    · exact ⟨0, by omega, x6 z⟩
    · rcases isI2 y2 with o | o
      · exact ⟨q, by omega, (x8 z o).trans y10⟩
      · exact ⟨0, by omega, x7 o⟩
  obtain ⟨u, u1, u2, u3⟩ := waits_eq cN w8
  have wt : ∀ k, k < 30 → (cN 8 k = I 0 ↔ ¬ Wt mN k) := by
    intro k hk
    obtain ⟨-, -, -, -, -, x6, x7, x8⟩ := port k hk
    obtain ⟨y1, y2, -, -, -, -, y7, -⟩ := pp k hk
    by_cases z : mN 3 k = nn
    · refine ⟨fun _ q => ?_, fun _ => x6 z⟩
      have e := y7 z
      rcases q.2.2 with q | q
      · rw [q, I01] at e; exact e
      · rw [q, I_inj (by omega) (by omega)] at e; omega
    · obtain ⟨f1, f2⟩ := d7 k hk z
      rcases isI2 y2 with o | o
      · rw [x8 z o]
        rcases isI2 y1 with s | s
        · have := f1 s o
          constructor
          · intro q1 q2
            exact this.mp q2.2.2 q1
          · intro q1
            apply Classical.byContradiction
            intro q2
            exact q1 ⟨o, s, this.mpr q2⟩
        · refine ⟨fun _ q => ?_, fun _ => (f2 s).2⟩
          rw [q.2.1, I10] at s
          exact s
      · refine ⟨fun _ q => ?_, fun _ => x7 o⟩
        rw [q.1, I10] at o
        exact o
  have both : v = 1 ↔ (w = 1 ∧ u = 0) := by
    rw [v3, l3, w3, u3]
    constructor
    · rintro ⟨⟨k1, k2, k3, k4, k5⟩, k6⟩
      refine ⟨⟨fun j hj => ?_, fun k hk => ?_⟩, fun k hk => (wt k hk).mpr (k6 k hk).2⟩
      · obtain ⟨x1, x2, x3, -⟩ := tree j hj
        obtain ⟨y1, y2, y3, -⟩ := tree0 j hj
        rw [x1, x2, x3, y1, y2, y3, k1 j hj, k2 j hj, k3 j hj, n36 _ (by omega), n36 _ (by omega), n36 _ (by omega), tt_16 mm hj, tt_17 mm hj, tt_18 mm hj]
        exact ⟨rfl, rfl, rfl⟩
      · rw [(port k hk).1, (port k hk).2.1, (port0 k hk).1, (port0 k hk).2.1, (k6 k hk).1, (n37 k hk).1, k5 k hk, n36 _ (by omega), tt_13 mm hk]
        exact ⟨rfl, rfl⟩
    · rintro ⟨⟨k1, k2⟩, k3⟩
      have e16 : ∀ j, j < 6 → mN 16 j = mm 16 j := fun j hj => by
        rw [← (tree j hj).1, ← (tree0 j hj).1]; exact (k1 j hj).1
      have e13 : ∀ k, k < 30 → mN 13 k = mm 13 k := fun k hk => by
        rw [← (port k hk).2.1, ← (port0 k hk).2.1]; exact (k2 k hk).2
      refine ⟨⟨fun j hj => ?_, fun j hj => ?_, fun j hj => ?_, fun j hj => ?_, fun k hk => ?_⟩, fun k hk => ⟨?_, (wt k hk).mp (k3 k hk)⟩⟩
      · rw [n36 _ (by omega), tt_16 mm hj]; exact e16 j hj
      · rw [n36 _ (by omega), tt_17 mm hj, ← (tree j hj).2.1, ← (tree0 j hj).2.1]; exact (k1 j hj).2.1
      · rw [n36 _ (by omega), tt_18 mm hj, ← (tree j hj).2.2.1, ← (tree0 j hj).2.2.1]; exact (k1 j hj).2.2
      · rw [n36 _ (by omega), tt_19 mm hj]
        rcases d6 j hj with ⟨q1, q2⟩ | ⟨k, q1, q2, q3, q4⟩
        · rcases (h.2.2.2.2.2.2.1 j hj).2.2 with q | ⟨p, -, -, q⟩
          · rw [q1, q]
          · rw [← e16 j hj] at q
            exact absurd q2 q
        · have := (pp0 k q1).2.2.2.2.2.2.2.1 (by rw [← e13 k q1]; exact q4)
          rw [q2] at this
          rw [q3, this]
      · rw [n36 _ (by omega), tt_13 mm hk]; exact e13 k hk
      · rw [(n37 k hk).1, ← (port k hk).1, ← (port0 k hk).1]; exact (k2 k hk).1
  have ref : fX6_isAtRest mm = some (I v, p3 mB 12 10 37 f g e) := by
    have r0 : fX6_rows (iS mm 40 (I 0)) (I 0) = some mK := by rw [a1, b1, eK]
    have r9 : fX6_isAtRest_J178 mN (mm 0 0) (I v) = some (I v, p3 mB 12 10 37 f g e) := by
      unfold fX6_isAtRest_J178
      rw [lit, r1, s1, bd1]
      rcases (show v = 0 ∨ v = 1 by omega) with rfl | rfl
      · rw [isb_0, ck1]
      · rw [isb_1, ck1]
    rw [← r9, ← v2, ← l2]
    unfold fX6_isAtRest
    rw [show (0 : Int32) = I 0 from rfl, r0, bd1, d3, bd1, kq 0 (by omega)]
    rfl
  rcases (show w = 0 ∨ w = 1 by omega) with rfl | rfl
  · have e0 : v = 0 := by omega
    subst e0
    refine ⟨0, cN, _, by omega, ?_, ref, hE⟩
    simp (disch := omega) only [fX5_isAtRest, c1, d1, w2, ck1, bd1, bx1, bx2, aS_at, iS_at, upd_at, ↓reduceIte, Nat.reduceEqDiff, Nat.reduceAdd, Nat.reduceMul, Nat.reduceSub, Nat.reduceDiv, Nat.reduceLT, Nat.reduceLeDiff, Nat.reduceBEq, ne_eq, not_true_eq_false, not_false_eq_true, reduceCtorEq, if_true, if_false, eq_self, Nat.add_zero, Nat.zero_add, lit, lit_nn, I_nat, I_add, I_mul, I_sub, I_div, inb_t, I_ne, I_nn, nn_I, nn_lt, nn_le, lt_nn, le_nn, I_t, I_f, I_lt_t, I_lt_f, isb_0, isb_1, vz_0, vz_1, nn_nat]
  · rcases (show u = 0 ∨ u = 1 by omega) with rfl | rfl
    · have e0 : v = 1 := both.mpr ⟨rfl, rfl⟩
      subst e0
      refine ⟨1, cN, _, by omega, ?_, ref, hE⟩
      simp (disch := omega) only [fX5_isAtRest, c1, d1, w2, u2, ck1, bd1, bx1, bx2, aS_at, iS_at, upd_at, ↓reduceIte, Nat.reduceEqDiff, Nat.reduceAdd, Nat.reduceMul, Nat.reduceSub, Nat.reduceDiv, Nat.reduceLT, Nat.reduceLeDiff, Nat.reduceBEq, ne_eq, not_true_eq_false, not_false_eq_true, reduceCtorEq, if_true, if_false, eq_self, Nat.add_zero, Nat.zero_add, lit, lit_nn, I_nat, I_add, I_mul, I_sub, I_div, inb_t, I_ne, I_nn, nn_I, nn_lt, nn_le, lt_nn, le_nn, I_t, I_f, I_lt_t, I_lt_f, isb_0, isb_1, vz_0, vz_1, nn_nat, I01]
    · have e0 : v = 0 := by omega
      subst e0
      refine ⟨0, cN, _, by omega, ?_, ref, hE⟩
      simp (disch := omega) only [fX5_isAtRest, c1, d1, w2, u2, ck1, bd1, bx1, bx2, aS_at, iS_at, upd_at, ↓reduceIte, Nat.reduceEqDiff, Nat.reduceAdd, Nat.reduceMul, Nat.reduceSub, Nat.reduceDiv, Nat.reduceLT, Nat.reduceLeDiff, Nat.reduceBEq, ne_eq, not_true_eq_false, not_false_eq_true, reduceCtorEq, if_true, if_false, eq_self, Nat.add_zero, Nat.zero_add, lit, lit_nn, I_nat, I_add, I_mul, I_sub, I_div, inb_t, I_ne, I_nn, nn_I, nn_lt, nn_le, lt_nn, le_nn, I_t, I_f, I_lt_t, I_lt_f, isb_0, isb_1, vz_0, vz_1, nn_nat, I01]

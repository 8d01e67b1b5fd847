/-! ===== the change spreads ===== -/
def Sp (f g : Nat → Int32) : Prop := ∀ j, j < 6 → ∃ b, b < 2 ∧ f j = I b ∧ g j = I b
theorem Sp.set {f g : Nat → Int32} (h : Sp f g) (u : Nat) : Sp (upd f u (I 1)) (upd g u (I 1)) := by
  intro j hj
  rw [upd_at, upd_at]
  by_cases d : j = u
  · rw [if_pos d, if_pos d]; exact ⟨1, by omega, rfl, rfl⟩
  · rw [if_neg d, if_neg d]; exact h j hj
theorem spread_step {N : Nat} {cs cw ct cl cb mm : St} (h : Rel N cs cw ct cl cb mm) {k : Nat} {f g : Nat → Int32} (hk : k < 30) (hw : Sp f g) (y : Int32) : ∃ f' g', Sp f' g' ∧ (∀ k2 rec, fX3_spreadStale_S10 k2 rec cw y (pF ct 14 f) (I k) = rec (pF ct 14 f', I (k + 1))) ∧ (∀ k2 rec, fX6_spreads_S10 k2 rec y (pF mm 39 g) (I k) = rec (pF mm 39 g', I (k + 1))) := by
  have hr : Rel N cs cw (pF ct 14 f) cl cb (pF mm 39 g) := h
  have t14 : (pF ct 14 f) 14 = f := rfl
  have m39 : (pF mm 39 g) 39 = g := rfl
  have m3 : (pF mm 39 g) 3 = mm 3 := rfl
  obtain ⟨b, hb, e1, e2⟩ := hw (k / 5) (by omega)
  rcases pass_both hr hk with ⟨p1, p2⟩ | ⟨j, c, hj, a2, a3, c0, a5, a6, a7, c1, -, -, p1, p2⟩
  · refine ⟨f, g, hw, fun k2 rec => ?_, fun k2 rec => ?_⟩
    · rcases (show b = 0 ∨ b = 1 by omega) with rfl | rfl
      · simp (disch := omega) only [fX3_spreadStale_S10, ck1, bd1, bx1, bx2, aS_at, iS_at, upd_at, ↓reduceIte, Nat.reduceEqDiff, Nat.reduceAdd, Nat.reduceMul, Nat.reduceSub, Nat.reduceDiv, Nat.reduceLT, Nat.reduceLeDiff, Nat.reduceBEq, ne_eq, not_true_eq_false, not_false_eq_true, reduceCtorEq, if_true, if_false, eq_self, Nat.add_zero, Nat.zero_add, lit, lit_nn, I_nat, I_add, I_mul, I_sub, I_div, inb_t, I_ne, I_nn, nn_I, nn_lt, nn_le, lt_nn, le_nn, I_t, I_f, I_lt_t, I_lt_f, isb_0, isb_1, vz_0, vz_1, nn_nat, t14, e1]
      · simp (disch := omega) only [fX3_spreadStale_S10, ck1, bd1, bx1, bx2, aS_at, iS_at, upd_at, ↓reduceIte, Nat.reduceEqDiff, Nat.reduceAdd, Nat.reduceMul, Nat.reduceSub, Nat.reduceDiv, Nat.reduceLT, Nat.reduceLeDiff, Nat.reduceBEq, ne_eq, not_true_eq_false, not_false_eq_true, reduceCtorEq, if_true, if_false, eq_self, Nat.add_zero, Nat.zero_add, lit, lit_nn, I_nat, I_add, I_mul, I_sub, I_div, inb_t, I_ne, I_nn, nn_I, nn_lt, nn_le, lt_nn, le_nn, I_t, I_f, I_lt_t, I_lt_f, isb_0, isb_1, vz_0, vz_1, nn_nat, t14, e1, p1, I01]
    · simp (disch := omega) only [fX6_spreads_S10, ck1, bd1, bx1, bx2, aS_at, iS_at, upd_at, ↓reduceIte, Nat.reduceEqDiff, Nat.reduceAdd, Nat.reduceMul, Nat.reduceSub, Nat.reduceDiv, Nat.reduceLT, Nat.reduceLeDiff, Nat.reduceBEq, ne_eq, not_true_eq_false, not_false_eq_true, reduceCtorEq, if_true, if_false, eq_self, Nat.add_zero, Nat.zero_add, lit, lit_nn, I_nat, I_add, I_mul, I_sub, I_div, inb_t, I_ne, I_nn, nn_I, nn_lt, nn_le, lt_nn, le_nn, I_t, I_f, I_lt_t, I_lt_f, isb_0, isb_1, vz_0, vz_1, nn_nat, p2]
  · rw [m3] at a2
    rcases (show b = 0 ∨ b = 1 by omega) with rfl | rfl
    · refine ⟨f, g, hw, fun k2 rec => ?_, fun k2 rec => ?_⟩
      · simp (disch := omega) only [fX3_spreadStale_S10, ck1, bd1, bx1, bx2, aS_at, iS_at, upd_at, ↓reduceIte, Nat.reduceEqDiff, Nat.reduceAdd, Nat.reduceMul, Nat.reduceSub, Nat.reduceDiv, Nat.reduceLT, Nat.reduceLeDiff, Nat.reduceBEq, ne_eq, not_true_eq_false, not_false_eq_true, reduceCtorEq, if_true, if_false, eq_self, Nat.add_zero, Nat.zero_add, lit, lit_nn, I_nat, I_add, I_mul, I_sub, I_div, inb_t, I_ne, I_nn, nn_I, nn_lt, nn_le, lt_nn, le_nn, I_t, I_f, I_lt_t, I_lt_f, isb_0, isb_1, vz_0, vz_1, nn_nat, t14, e1]
      · simp (disch := omega) only [fX6_spreads_S10, ck1, bd1, bx1, bx2, aS_at, iS_at, upd_at, ↓reduceIte, Nat.reduceEqDiff, Nat.reduceAdd, Nat.reduceMul, Nat.reduceSub, Nat.reduceDiv, Nat.reduceLT, Nat.reduceLeDiff, Nat.reduceBEq, ne_eq, not_true_eq_false, not_false_eq_true, reduceCtorEq, if_true, if_false, eq_self, Nat.add_zero, Nat.zero_add, lit, lit_nn, I_nat, I_add, I_mul, I_sub, I_div, inb_t, I_ne, I_nn, nn_I, nn_lt, nn_le, lt_nn, le_nn, I_t, I_f, I_lt_t, I_lt_f, isb_0, isb_1, vz_0, vz_1, nn_nat, p2, m39, e2]
    · refine ⟨upd f (j / 5) (I 1), upd g (j / 5) (I 1), hw.set _, fun k2 rec => ?_, fun k2 rec => ?_⟩
      · simp (disch := omega) only [fX3_spreadStale_S10, aS_pF, ck1, bd1, bx1, bx2, aS_at, iS_at, upd_at, ↓reduceIte, Nat.reduceEqDiff, Nat.reduceAdd, Nat.reduceMul, Nat.reduceSub, Nat.reduceDiv, Nat.reduceLT, Nat.reduceLeDiff, Nat.reduceBEq, ne_eq, not_true_eq_false, not_false_eq_true, reduceCtorEq, if_true, if_false, eq_self, Nat.add_zero, Nat.zero_add, lit, lit_nn, I_nat, I_add, I_mul, I_sub, I_div, inb_t, I_ne, I_nn, nn_I, nn_lt, nn_le, lt_nn, le_nn, I_t, I_f, I_lt_t, I_lt_f, isb_0, isb_1, vz_0, vz_1, nn_nat, t14, e1, p1, c0, I01]
      · simp (disch := omega) only [fX6_spreads_S10, aS_pF, ck1, bd1, bx1, bx2, aS_at, iS_at, upd_at, ↓reduceIte, Nat.reduceEqDiff, Nat.reduceAdd, Nat.reduceMul, Nat.reduceSub, Nat.reduceDiv, Nat.reduceLT, Nat.reduceLeDiff, Nat.reduceBEq, ne_eq, not_true_eq_false, not_false_eq_true, reduceCtorEq, if_true, if_false, eq_self, Nat.add_zero, Nat.zero_add, lit, lit_nn, I_nat, I_add, I_mul, I_sub, I_div, inb_t, I_ne, I_nn, nn_I, nn_lt, nn_le, lt_nn, le_nn, I_t, I_f, I_lt_t, I_lt_f, isb_0, isb_1, vz_0, vz_1, nn_nat, p2, m39, m3, e2, a2, I01]
theorem spread_both {N : Nat} {cs cw ct cl cb mm : St} (h : Rel N cs cw ct cl cb mm) (hs : Sp (ct 14) (mm 39)) : ∃ f g, Sp f g ∧ fX3_spreadStale ct cw = some (pF ct 14 f) ∧ fX6_spreads mm = some (pF mm 39 g) := by
  obtain ⟨x, hQ, h1, h2⟩ := loop_two (ι := Unit) (ι' := Unit) (step := fun _ k a => fX3_spreadStale_S2 k cw (a.1) (a.2)) (step' := fun _ k a => fX6_spreads_S2 k (a.1) (a.2)) (fun t (x : (Nat → Int32) × (Nat → Int32)) => (pF ct 14 x.1, I t)) (fun t x => (pF mm 39 x.2, I t)) 6 (fun t x => Sp x.1 x.2) (fun _ x => some (pF ct 14 x.1)) (fun _ x => some (pF mm 39 x.2))
    (by
      intro t x ht hQ
      obtain ⟨y, hy, g1, g2⟩ := loop_two (step := fun k2 k a => fX3_spreadStale_S10 k2 k cw (I t) (a.1) (a.2)) (step' := fun k2 k a => fX6_spreads_S10 k2 k (I t) (a.1) (a.2)) (fun t (x : (Nat → Int32) × (Nat → Int32)) => (pF ct 14 x.1, I t)) (fun t x => (pF mm 39 x.2, I t)) 30 (fun k y => Sp y.1 y.2) (fun k2 y => k2 (pF ct 14 y.1, I (t + 1))) (fun k2 y => k2 (pF mm 39 y.2, I (t + 1)))
        (by
          intro k y hk hy
          obtain ⟨f', g', a1, a3, a4⟩ := spread_step h hk hy (I t)
          exact ⟨(f', g'), a1, a3, a4⟩)
        (by
          intro y _
          refine ⟨fun _ rec => ?_, fun _ rec => ?_⟩
          · simp (disch := omega) only [fX3_spreadStale_S10, ck1, bd1, bx1, bx2, aS_at, iS_at, upd_at, ↓reduceIte, Nat.reduceEqDiff, Nat.reduceAdd, Nat.reduceMul, Nat.reduceSub, Nat.reduceDiv, Nat.reduceLT, Nat.reduceLeDiff, Nat.reduceBEq, ne_eq, not_true_eq_false, not_false_eq_true, reduceCtorEq, if_true, if_false, eq_self, Nat.add_zero, Nat.zero_add, lit, lit_nn, I_nat, I_add, I_mul, I_sub, I_div, inb_t, I_ne, I_nn, nn_I, nn_lt, nn_le, lt_nn, le_nn, I_t, I_f, I_lt_t, I_lt_f, isb_0, isb_1, vz_0, vz_1, nn_nat]
          · simp (disch := omega) only [fX6_spreads_S10, ck1, bd1, bx1, bx2, aS_at, iS_at, upd_at, ↓reduceIte, Nat.reduceEqDiff, Nat.reduceAdd, Nat.reduceMul, Nat.reduceSub, Nat.reduceDiv, Nat.reduceLT, Nat.reduceLeDiff, Nat.reduceBEq, ne_eq, not_true_eq_false, not_false_eq_true, reduceCtorEq, if_true, if_false, eq_self, Nat.add_zero, Nat.zero_add, lit, lit_nn, I_nat, I_add, I_mul, I_sub, I_div, inb_t, I_ne, I_nn, nn_I, nn_lt, nn_le, lt_nn, le_nn, I_t, I_f, I_lt_t, I_lt_f, isb_0, isb_1, vz_0, vz_1, nn_nat])
        30 0 x 1000 (by omega) (by omega) hQ
      refine ⟨y, hy, fun _ rec => ?_, fun _ rec => ?_⟩
      · rw [← g1 rec]
        simp (disch := omega) only [fX3_spreadStale_S2, fX3_spreadStale_L10, ck1, bd1, bx1, bx2, aS_at, iS_at, upd_at, ↓reduceIte, Nat.reduceEqDiff, Nat.reduceAdd, Nat.reduceMul, Nat.reduceSub, Nat.reduceDiv, Nat.reduceLT, Nat.reduceLeDiff, Nat.reduceBEq, ne_eq, not_true_eq_false, not_false_eq_true, reduceCtorEq, if_true, if_false, eq_self, Nat.add_zero, Nat.zero_add, lit, lit_nn, I_nat, I_add, I_mul, I_sub, I_div, inb_t, I_ne, I_nn, nn_I, nn_lt, nn_le, lt_nn, le_nn, I_t, I_f, I_lt_t, I_lt_f, isb_0, isb_1, vz_0, vz_1, nn_nat]
      · rw [← g2 rec]
        simp (disch := omega) only [fX6_spreads_S2, fX6_spreads_L10, ck1, bd1, bx1, bx2, aS_at, iS_at, upd_at, ↓reduceIte, Nat.reduceEqDiff, Nat.reduceAdd, Nat.reduceMul, Nat.reduceSub, Nat.reduceDiv, Nat.reduceLT, Nat.reduceLeDiff, Nat.reduceBEq, ne_eq, not_true_eq_false, not_false_eq_true, reduceCtorEq, if_true, if_false, eq_self, Nat.add_zero, Nat.zero_add, lit, lit_nn, I_nat, I_add, I_mul, I_sub, I_div, inb_t, I_ne, I_nn, nn_I, nn_lt, nn_le, lt_nn, le_nn, I_t, I_f, I_lt_t, I_lt_f, isb_0, isb_1, vz_0, vz_1, nn_nat])
    (by
      intro x _
      refine ⟨fun _ rec => ?_, fun _ rec => ?_⟩
      · simp (disch := omega) only [fX3_spreadStale_S2, ck1, bd1, bx1, bx2, aS_at, iS_at, upd_at, ↓reduceIte, Nat.reduceEqDiff, Nat.reduceAdd, Nat.reduceMul, Nat.reduceSub, Nat.reduceDiv, Nat.reduceLT, Nat.reduceLeDiff, Nat.reduceBEq, ne_eq, not_true_eq_false, not_false_eq_true, reduceCtorEq, if_true, if_false, eq_self, Nat.add_zero, Nat.zero_add, lit, lit_nn, I_nat, I_add, I_mul, I_sub, I_div, inb_t, I_ne, I_nn, nn_I, nn_lt, nn_le, lt_nn, le_nn, I_t, I_f, I_lt_t, I_lt_f, isb_0, isb_1, vz_0, vz_1, nn_nat]
      · simp (disch := omega) only [fX6_spreads_S2, ck1, bd1, bx1, bx2, aS_at, iS_at, upd_at, ↓reduceIte, Nat.reduceEqDiff, Nat.reduceAdd, Nat.reduceMul, Nat.reduceSub, Nat.reduceDiv, Nat.reduceLT, Nat.reduceLeDiff, Nat.reduceBEq, ne_eq, not_true_eq_false, not_false_eq_true, reduceCtorEq, if_true, if_false, eq_self, Nat.add_zero, Nat.zero_add, lit, lit_nn, I_nat, I_add, I_mul, I_sub, I_div, inb_t, I_ne, I_nn, nn_I, nn_lt, nn_le, lt_nn, le_nn, I_t, I_f, I_lt_t, I_lt_f, isb_0, isb_1, vz_0, vz_1, nn_nat])
    6 0 (ct 14, mm 39) 1000 (by omega) (by omega) hs
  refine ⟨x.1, x.2, hQ, ?_, ?_⟩
  · have e := h1 ()
    dsimp only at e
    rw [pF_self] at e
    exact e
  · have e := h2 ()
    dsimp only at e
    rw [pF_self] at e
    exact e
/-- the reference's tables are emptied -/
theorem ref_empty (mm : St) (hg : ∀ j, j < 6 → isI 2 (mm 39 j)) : ∃ e : Nat → Int32, fX6_opens_L189 mm (I 0) = some (pF mm 24 e) ∧ ∀ j, j < 6 → (mm 39 j = I 0 → e j = mm 24 j) ∧ (mm 39 j = I 1 → e j = I 0) := by
  obtain ⟨e, ⟨u1, u2⟩, hl⟩ := loop_up (σ := Nat → Int32) (step := fun k a => fX6_opens_S189 k (a.1) (a.2)) (fun t e => (pF mm 24 e, I t)) 6 (fun t e => (∀ j, t ≤ j → e j = mm 24 j) ∧ ∀ j, j < t → (mm 39 j = I 0 → e j = mm 24 j) ∧ (mm 39 j = I 1 → e j = I 0)) (fun e => some (pF mm 24 e))
    (by
      intro t e ht ⟨u1, u2⟩
      have m39 : (pF mm 24 e) 39 = mm 39 := rfl
      have m24 : (pF mm 24 e) 24 = e := rfl
      rcases isI2 (hg t ht) with w | w
      · refine ⟨upd e t (e t), ⟨fun j hj => ?_, fun j hj => ?_⟩, fun rec => ?_⟩
        · rw [upd_at, if_neg (by omega)]; exact u1 j (by omega)
        · rw [upd_at]
          by_cases d : j = t
          · rw [if_pos d, d, w, I10]
            exact ⟨fun _ => u1 t (by omega), fun z => False.elim z⟩
          · rw [if_neg d]; exact u2 j (by omega)
        · simp (disch := omega) only [fX6_opens_S189, fX6_opens_J219, aS_pF, ck1, bd1, bx1, bx2, aS_at, iS_at, upd_at, ↓reduceIte, Nat.reduceEqDiff, Nat.reduceAdd, Nat.reduceMul, Nat.reduceSub, Nat.reduceDiv, Nat.reduceLT, Nat.reduceLeDiff, Nat.reduceBEq, ne_eq, not_true_eq_false, not_false_eq_true, reduceCtorEq, if_true, if_false, eq_self, Nat.add_zero, Nat.zero_add, lit, lit_nn, I_nat, I_add, I_mul, I_sub, I_div, inb_t, I_ne, I_nn, nn_I, nn_lt, nn_le, lt_nn, le_nn, I_t, I_f, I_lt_t, I_lt_f, isb_0, isb_1, vz_0, vz_1, nn_nat, m39, m24, w]
      · refine ⟨upd e t (I 0), ⟨fun j hj => ?_, fun j hj => ?_⟩, fun rec => ?_⟩
        · rw [upd_at, if_neg (by omega)]; exact u1 j (by omega)
        · rw [upd_at]
          by_cases d : j = t
          · rw [if_pos d, d, w, I01]
            exact ⟨fun z => False.elim z, fun _ => rfl⟩
          · rw [if_neg d]; exact u2 j (by omega)
        · simp (disch := omega) only [fX6_opens_S189, fX6_opens_J219, aS_pF, ck1, bd1, bx1, bx2, aS_at, iS_at, upd_at, ↓reduceIte, Nat.reduceEqDiff, Nat.reduceAdd, Nat.reduceMul, Nat.reduceSub, Nat.reduceDiv, Nat.reduceLT, Nat.reduceLeDiff, Nat.reduceBEq, ne_eq, not_true_eq_false, not_false_eq_true, reduceCtorEq, if_true, if_false, eq_self, Nat.add_zero, Nat.zero_add, lit, lit_nn, I_nat, I_add, I_mul, I_sub, I_div, inb_t, I_ne, I_nn, nn_I, nn_lt, nn_le, lt_nn, le_nn, I_t, I_f, I_lt_t, I_lt_f, isb_0, isb_1, vz_0, vz_1, nn_nat, m39, m24, w, I01])
    (by
      intro e _ rec
      simp (disch := omega) only [fX6_opens_S189, ck1, bd1, bx1, bx2, aS_at, iS_at, upd_at, ↓reduceIte, Nat.reduceEqDiff, Nat.reduceAdd, Nat.reduceMul, Nat.reduceSub, Nat.reduceDiv, Nat.reduceLT, Nat.reduceLeDiff, Nat.reduceBEq, ne_eq, not_true_eq_false, not_false_eq_true, reduceCtorEq, if_true, if_false, eq_self, Nat.add_zero, Nat.zero_add, lit, lit_nn, I_nat, I_add, I_mul, I_sub, I_div, inb_t, I_ne, I_nn, nn_I, nn_lt, nn_le, lt_nn, le_nn, I_t, I_f, I_lt_t, I_lt_f, isb_0, isb_1, vz_0, vz_1, nn_nat])
    6 0 (mm 24) 1000 (by omega) (by omega) ⟨fun _ _ => rfl, fun j hj => by omega⟩
  refine ⟨e, ?_, u2⟩
  rw [← hl]
  rw [pF_self]
  rfl

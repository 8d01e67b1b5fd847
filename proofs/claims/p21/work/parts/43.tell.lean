def p3 (σ : St) (a b c : Nat) (f g h : Nat → Int32) : St := pF (pF (pF σ a f) b g) c h
theorem p3_a (σ : St) {a b c : Nat} (f g h : Nat → Int32) (i x : Int32) (h1 : a ≠ b) (h2 : a ≠ c) : aS (p3 σ a b c f g h) a i x = p3 σ a b c (upd f i.toNatClampNeg x) g h := by
  funext j
  simp only [p3, aS_at, pF_at]
  by_cases d : j = a
  · subst d; simp only [h1, h2, ↓reduceIte]
  · simp only [d, ↓reduceIte]
theorem p3_b (σ : St) {a b c : Nat} (f g h : Nat → Int32) (i x : Int32) (h2 : b ≠ c) : aS (p3 σ a b c f g h) b i x = p3 σ a b c f (upd g i.toNatClampNeg x) h := by
  funext j
  simp only [p3, aS_at, pF_at]
  by_cases d : j = b
  · subst d; simp only [h2, ↓reduceIte]
  · simp only [d, ↓reduceIte]
theorem p3_c (σ : St) {a b c : Nat} (f g h : Nat → Int32) (i x : Int32) : aS (p3 σ a b c f g h) c i x = p3 σ a b c f g (upd h i.toNatClampNeg x) := by
  funext j
  simp only [p3, aS_at, pF_at]
  by_cases d : j = c
  · subst d; simp only [↓reduceIte]
  · simp only [d, ↓reduceIte]
/-- what comes in on a port, on both sides -/
def Told (wi sh f10 f11 f12 g20 g21 g22 : Nat → Int32) (x : Nat) : Prop := (f10 x = nn ∧ g20 x = nn) ∨ ∃ j r c e, j < 30 ∧ wi x = I j ∧ sh x = I 0 ∧ r < 6 ∧ c ≤ 100 * e ∧ e ≤ 7 ∧ f10 x = I r ∧ g20 x = I r ∧ f11 x = I c ∧ g21 x = I c ∧ f12 x = I e ∧ g22 x = I e
theorem Told.keep {wi sh f10 f11 f12 g20 g21 g22 a10 a11 a12 b20 b21 b22 : Nat → Int32} {x : Nat} (h : Told wi sh f10 f11 f12 g20 g21 g22 x) (h1 : a10 x = f10 x) (h2 : a11 x = f11 x) (h3 : a12 x = f12 x) (h4 : b20 x = g20 x) (h5 : b21 x = g21 x) (h6 : b22 x = g22 x) : Told wi sh a10 a11 a12 b20 b21 b22 x := by
  unfold Told
  rw [h1, h2, h3, h4, h5, h6]
  exact h
set_option maxHeartbeats 1000000 in
theorem tell_step {N : Nat} {cs cw ct cl cb mm : St} (h : Rel N cs cw ct cl cb mm) {k : Nat} (hk : k < 30) (f10 f11 f12 g20 g21 g22 : Nat → Int32) : ∃ a10 a11 a12 b20 b21 b22, Told (mm 3) (mm 10) a10 a11 a12 b20 b21 b22 k ∧ (∀ x, x ≠ k → a10 x = f10 x ∧ a11 x = f11 x ∧ a12 x = f12 x ∧ b20 x = g20 x ∧ b21 x = g21 x ∧ b22 x = g22 x) ∧ (∀ rec, fX3_tell_S2 rec cw (p3 ct 10 11 12 f10 f11 f12) (I k) = rec (p3 ct 10 11 12 a10 a11 a12, I (k + 1))) ∧ (∀ rec, fX6_tells_S2 rec (p3 mm 20 21 22 g20 g21 g22) (I k) = rec (p3 mm 20 21 22 b20 b21 b22, I (k + 1))) := by
  have hr : Rel N cs cw (p3 ct 10 11 12 (upd f10 k nn) f11 f12) cl cb mm := h
  have m3 : (p3 mm 20 21 22 g20 g21 g22) 3 = mm 3 := rfl
  have m10 : (p3 mm 20 21 22 g20 g21 g22) 10 = mm 10 := rfl
  have m16 : ∀ a b c, (p3 mm 20 21 22 a b c) 16 = mm 16 := fun _ _ _ => rfl
  have m17 : ∀ a b c, (p3 mm 20 21 22 a b c) 17 = mm 17 := fun _ _ _ => rfl
  have m18 : ∀ a b c, (p3 mm 20 21 22 a b c) 18 = mm 18 := fun _ _ _ => rfl
  have t1 : ∀ a b c, (p3 ct 10 11 12 a b c) 1 = ct 1 := fun _ _ _ => rfl
  have t2 : ∀ a b c, (p3 ct 10 11 12 a b c) 2 = ct 2 := fun _ _ _ => rfl
  have t3 : ∀ a b c, (p3 ct 10 11 12 a b c) 3 = ct 3 := fun _ _ _ => rfl
  have hw := h.2.2.2.2.2.2.2.2.2.2.1 k hk
  rcases h.2.1 k hk with w | ⟨j, c, hj, a2, a3, a4, a5, a6, a7, a8⟩
  · have c0 := hw.1.trans w
    have jn : fX3_isJoined (p3 ct 10 11 12 (upd f10 k nn) f11 f12) cw (I k) = some (I 0) := by
      simp (disch := omega) only [fX3_isJoined, ck1, bd1, bx1, bx2, aS_at, iS_at, upd_at, ↓reduceIte, Nat.reduceEqDiff, Nat.reduceAdd, Nat.reduceMul, Nat.reduceSub, Nat.reduceDiv, Nat.reduceLT, Nat.reduceLeDiff, Nat.reduceBEq, ne_eq, not_true_eq_false, not_false_eq_true, reduceCtorEq, if_true, if_false, eq_self, Nat.add_zero, Nat.zero_add, lit, lit_nn, I_nat, I_add, I_mul, I_sub, I_div, inb_t, I_ne, I_nn, nn_I, nn_lt, nn_le, lt_nn, le_nn, I_t, I_f, I_lt_t, I_lt_f, isb_0, isb_1, vz_0, vz_1, nn_nat, c0]
    refine ⟨upd f10 k nn, f11, f12, upd g20 k nn, upd g21 k (I 0), upd g22 k (I 0), Or.inl ⟨by rw [upd_at, if_pos rfl], by rw [upd_at, if_pos rfl]⟩, fun x hx => ?_, fun rec => ?_, fun rec => ?_⟩
    · simp only [upd_at, hx, ↓reduceIte, and_self]
    · simp (disch := omega) only [fX3_tell_S2, p3_a, ck1, bd1, bx1, bx2, aS_at, iS_at, upd_at, ↓reduceIte, Nat.reduceEqDiff, Nat.reduceAdd, Nat.reduceMul, Nat.reduceSub, Nat.reduceDiv, Nat.reduceLT, Nat.reduceLeDiff, Nat.reduceBEq, ne_eq, not_true_eq_false, not_false_eq_true, reduceCtorEq, if_true, if_false, eq_self, Nat.add_zero, Nat.zero_add, lit, lit_nn, I_nat, I_add, I_mul, I_sub, I_div, inb_t, I_ne, I_nn, nn_I, nn_lt, nn_le, lt_nn, le_nn, I_t, I_f, I_lt_t, I_lt_f, isb_0, isb_1, vz_0, vz_1, nn_nat, jn]
    · simp (disch := omega) only [fX6_tells_S2, fX6_tells_J42, fX6_tells_J43, fX6_tells_J65, fX6_tells_J87, fX6_tells_J109, p3_a, p3_b, p3_c, ck1, bd1, bx1, bx2, aS_at, iS_at, upd_at, ↓reduceIte, Nat.reduceEqDiff, Nat.reduceAdd, Nat.reduceMul, Nat.reduceSub, Nat.reduceDiv, Nat.reduceLT, Nat.reduceLeDiff, Nat.reduceBEq, ne_eq, not_true_eq_false, not_false_eq_true, reduceCtorEq, if_true, if_false, eq_self, Nat.add_zero, Nat.zero_add, lit, lit_nn, I_nat, I_add, I_mul, I_sub, I_div, inb_t, I_ne, I_nn, nn_I, nn_lt, nn_le, lt_nn, le_nn, I_t, I_f, I_lt_t, I_lt_f, isb_0, isb_1, vz_0, vz_1, nn_nat, m3, m10, w]
  · have c0 := hw.1.trans a2
    rcases shut_eq h.2.2.2.2.2.1.1 h.2.2.2.2.2.2.2.1 h.2.2.2.2.2.2.2.2.2.2.2.2.2.2.2.1 hk with ⟨s1, s2⟩ | ⟨s1, s2⟩
    · rcases shut_eq h.2.2.2.2.2.1.1 h.2.2.2.2.2.2.2.1 h.2.2.2.2.2.2.2.2.2.2.2.2.2.2.2.1 hj with ⟨u1, u2⟩ | ⟨u1, u2⟩
      · have jn : fX3_isJoined (p3 ct 10 11 12 (upd f10 k nn) f11 f12) cw (I k) = some (I 1) := by
          simp (disch := omega) only [fX3_isJoined, isShut_t (p3 ct 10 11 12 (upd f10 k nn) f11 f12) hk s2, isShut_t (p3 ct 10 11 12 (upd f10 k nn) f11 f12) hj u2, ck1, bd1, bx1, bx2, aS_at, iS_at, upd_at, ↓reduceIte, Nat.reduceEqDiff, Nat.reduceAdd, Nat.reduceMul, Nat.reduceSub, Nat.reduceDiv, Nat.reduceLT, Nat.reduceLeDiff, Nat.reduceBEq, ne_eq, not_true_eq_false, not_false_eq_true, reduceCtorEq, if_true, if_false, eq_self, Nat.add_zero, Nat.zero_add, lit, lit_nn, I_nat, I_add, I_mul, I_sub, I_div, inb_t, I_ne, I_nn, nn_I, nn_lt, nn_le, lt_nn, le_nn, I_t, I_f, I_lt_t, I_lt_f, isb_0, isb_1, vz_0, vz_1, nn_nat, c0]
        have hj5 : j / 5 < 6 := by omega
        obtain ⟨y1, y2, y3, -, -⟩ := h.2.2.2.2.2.2.2.2.2.2.2.2.2.2.1 (j / 5) hj5
        obtain ⟨⟨r, hr6, er⟩, ⟨e, d, he, hd, ee, ed⟩, -⟩ := h.2.2.2.2.2.2.1 (j / 5) hj5
        rw [er] at y1
        rw [ed] at y2
        rw [ee] at y3
        refine ⟨upd (upd f10 k nn) k (I r), upd f11 k (I d), upd f12 k (I e), upd g20 k (I r), upd g21 k (I d), upd g22 k (I e), Or.inr ⟨j, r, d, e, hj, a2, s1, hr6, hd, he, by rw [upd_at, if_pos rfl], by rw [upd_at, if_pos rfl], by rw [upd_at, if_pos rfl], by rw [upd_at, if_pos rfl], by rw [upd_at, if_pos rfl], by rw [upd_at, if_pos rfl]⟩, fun x hx => ?_, fun rec => ?_, fun rec => ?_⟩
        · simp only [upd_at, hx, ↓reduceIte, and_self]
        · simp (disch := omega) only [fX3_tell_S2, p3_a, p3_b, p3_c, ck1, bd1, bx1, bx2, aS_at, iS_at, upd_at, ↓reduceIte, Nat.reduceEqDiff, Nat.reduceAdd, Nat.reduceMul, Nat.reduceSub, Nat.reduceDiv, Nat.reduceLT, Nat.reduceLeDiff, Nat.reduceBEq, ne_eq, not_true_eq_false, not_false_eq_true, reduceCtorEq, if_true, if_false, eq_self, Nat.add_zero, Nat.zero_add, lit, lit_nn, I_nat, I_add, I_mul, I_sub, I_div, inb_t, I_ne, I_nn, nn_I, nn_lt, nn_le, lt_nn, le_nn, I_t, I_f, I_lt_t, I_lt_f, isb_0, isb_1, vz_0, vz_1, nn_nat, jn, c0, t1, t2, t3, y1, y2, y3, I01]
        · simp (disch := omega) only [fX6_tells_S2, fX6_tells_J42, fX6_tells_J43, fX6_tells_J65, fX6_tells_J87, fX6_tells_J109, p3_a, p3_b, p3_c, ck1, bd1, bx1, bx2, aS_at, iS_at, upd_at, ↓reduceIte, Nat.reduceEqDiff, Nat.reduceAdd, Nat.reduceMul, Nat.reduceSub, Nat.reduceDiv, Nat.reduceLT, Nat.reduceLeDiff, Nat.reduceBEq, ne_eq, not_true_eq_false, not_false_eq_true, reduceCtorEq, if_true, if_false, eq_self, Nat.add_zero, Nat.zero_add, lit, lit_nn, I_nat, I_add, I_mul, I_sub, I_div, inb_t, I_ne, I_nn, nn_I, nn_lt, nn_le, lt_nn, le_nn, I_t, I_f, I_lt_t, I_lt_f, isb_0, isb_1, vz_0, vz_1, nn_nat, m3, m10, m16, m17, m18, a2, s1, u1, er, ed, ee, I01]
      · have jn : fX3_isJoined (p3 ct 10 11 12 (upd f10 k nn) f11 f12) cw (I k) = some (I 0) := by
          simp (disch := omega) only [fX3_isJoined, isShut_t (p3 ct 10 11 12 (upd f10 k nn) f11 f12) hk s2, isShut_f (p3 ct 10 11 12 (upd f10 k nn) f11 f12) hj u2, ck1, bd1, bx1, bx2, aS_at, iS_at, upd_at, ↓reduceIte, Nat.reduceEqDiff, Nat.reduceAdd, Nat.reduceMul, Nat.reduceSub, Nat.reduceDiv, Nat.reduceLT, Nat.reduceLeDiff, Nat.reduceBEq, ne_eq, not_true_eq_false, not_false_eq_true, reduceCtorEq, if_true, if_false, eq_self, Nat.add_zero, Nat.zero_add, lit, lit_nn, I_nat, I_add, I_mul, I_sub, I_div, inb_t, I_ne, I_nn, nn_I, nn_lt, nn_le, lt_nn, le_nn, I_t, I_f, I_lt_t, I_lt_f, isb_0, isb_1, vz_0, vz_1, nn_nat, c0, I01]
        refine ⟨upd f10 k nn, f11, f12, upd g20 k nn, upd g21 k (I 0), upd g22 k (I 0), Or.inl ⟨by rw [upd_at, if_pos rfl], by rw [upd_at, if_pos rfl]⟩, fun x hx => ?_, fun rec => ?_, fun rec => ?_⟩
        · simp only [upd_at, hx, ↓reduceIte, and_self]
        · simp (disch := omega) only [fX3_tell_S2, p3_a, ck1, bd1, bx1, bx2, aS_at, iS_at, upd_at, ↓reduceIte, Nat.reduceEqDiff, Nat.reduceAdd, Nat.reduceMul, Nat.reduceSub, Nat.reduceDiv, Nat.reduceLT, Nat.reduceLeDiff, Nat.reduceBEq, ne_eq, not_true_eq_false, not_false_eq_true, reduceCtorEq, if_true, if_false, eq_self, Nat.add_zero, Nat.zero_add, lit, lit_nn, I_nat, I_add, I_mul, I_sub, I_div, inb_t, I_ne, I_nn, nn_I, nn_lt, nn_le, lt_nn, le_nn, I_t, I_f, I_lt_t, I_lt_f, isb_0, isb_1, vz_0, vz_1, nn_nat, jn]
        · simp (disch := omega) only [fX6_tells_S2, fX6_tells_J42, fX6_tells_J43, fX6_tells_J65, fX6_tells_J87, fX6_tells_J109, p3_a, p3_b, p3_c, ck1, bd1, bx1, bx2, aS_at, iS_at, upd_at, ↓reduceIte, Nat.reduceEqDiff, Nat.reduceAdd, Nat.reduceMul, Nat.reduceSub, Nat.reduceDiv, Nat.reduceLT, Nat.reduceLeDiff, Nat.reduceBEq, ne_eq, not_true_eq_false, not_false_eq_true, reduceCtorEq, if_true, if_false, eq_self, Nat.add_zero, Nat.zero_add, lit, lit_nn, I_nat, I_add, I_mul, I_sub, I_div, inb_t, I_ne, I_nn, nn_I, nn_lt, nn_le, lt_nn, le_nn, I_t, I_f, I_lt_t, I_lt_f, isb_0, isb_1, vz_0, vz_1, nn_nat, m3, m10, a2, s1, u1, I01]
    · have jn : fX3_isJoined (p3 ct 10 11 12 (upd f10 k nn) f11 f12) cw (I k) = some (I 0) := by
        simp (disch := omega) only [fX3_isJoined, isShut_f (p3 ct 10 11 12 (upd f10 k nn) f11 f12) hk s2, ck1, bd1, bx1, bx2, aS_at, iS_at, upd_at, ↓reduceIte, Nat.reduceEqDiff, Nat.reduceAdd, Nat.reduceMul, Nat.reduceSub, Nat.reduceDiv, Nat.reduceLT, Nat.reduceLeDiff, Nat.reduceBEq, ne_eq, not_true_eq_false, not_false_eq_true, reduceCtorEq, if_true, if_false, eq_self, Nat.add_zero, Nat.zero_add, lit, lit_nn, I_nat, I_add, I_mul, I_sub, I_div, inb_t, I_ne, I_nn, nn_I, nn_lt, nn_le, lt_nn, le_nn, I_t, I_f, I_lt_t, I_lt_f, isb_0, isb_1, vz_0, vz_1, nn_nat, c0, I01]
      refine ⟨upd f10 k nn, f11, f12, upd g20 k nn, upd g21 k (I 0), upd g22 k (I 0), Or.inl ⟨by rw [upd_at, if_pos rfl], by rw [upd_at, if_pos rfl]⟩, fun x hx => ?_, fun rec => ?_, fun rec => ?_⟩
      · simp only [upd_at, hx, ↓reduceIte, and_self]
      · simp (disch := omega) only [fX3_tell_S2, p3_a, ck1, bd1, bx1, bx2, aS_at, iS_at, upd_at, ↓reduceIte, Nat.reduceEqDiff, Nat.reduceAdd, Nat.reduceMul, Nat.reduceSub, Nat.reduceDiv, Nat.reduceLT, Nat.reduceLeDiff, Nat.reduceBEq, ne_eq, not_true_eq_false, not_false_eq_true, reduceCtorEq, if_true, if_false, eq_self, Nat.add_zero, Nat.zero_add, lit, lit_nn, I_nat, I_add, I_mul, I_sub, I_div, inb_t, I_ne, I_nn, nn_I, nn_lt, nn_le, lt_nn, le_nn, I_t, I_f, I_lt_t, I_lt_f, isb_0, isb_1, vz_0, vz_1, nn_nat, jn]
      · simp (disch := omega) only [fX6_tells_S2, fX6_tells_J42, fX6_tells_J43, fX6_tells_J65, fX6_tells_J87, fX6_tells_J109, p3_a, p3_b, p3_c, ck1, bd1, bx1, bx2, aS_at, iS_at, upd_at, ↓reduceIte, Nat.reduceEqDiff, Nat.reduceAdd, Nat.reduceMul, Nat.reduceSub, Nat.reduceDiv, Nat.reduceLT, Nat.reduceLeDiff, Nat.reduceBEq, ne_eq, not_true_eq_false, not_false_eq_true, reduceCtorEq, if_true, if_false, eq_self, Nat.add_zero, Nat.zero_add, lit, lit_nn, I_nat, I_add, I_mul, I_sub, I_div, inb_t, I_ne, I_nn, nn_I, nn_lt, nn_le, lt_nn, le_nn, I_t, I_f, I_lt_t, I_lt_f, isb_0, isb_1, vz_0, vz_1, nn_nat, m3, m10, a2, s1, I01]

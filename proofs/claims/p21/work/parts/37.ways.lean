theorem pF_pF (σ : St) (k : Nat) (f g : Nat → Int32) : pF (pF σ k f) k g = pF σ k g := by
  funext j
  rw [pF_at, pF_at, pF_at]
  by_cases d : j = k
  · rw [if_pos d, if_pos d]
  · rw [if_neg d, if_neg d, if_neg d]
theorem aS_pF (σ : St) (k : Nat) (f : Nat → Int32) (i x : Int32) : aS (pF σ k f) k i x = pF σ k (upd f i.toNatClampNeg x) := by
  show pF (pF σ k f) k (upd ((pF σ k f) k) i.toNatClampNeg x) = _
  rw [pF_pF, pF_at, if_pos rfl]
theorem upd_ne {f : Nat → Int32} {w v : Nat} (hv : v < 2147483648) : ∀ u, f u ≠ nn → upd f w (I v) u ≠ nn := by
  intro u hh
  rw [upd_at]
  by_cases d : u = w
  · rw [if_pos d, ne_eq, I_nn hv]; exact fun h => h
  · rw [if_neg d]; exact hh
def Way (B : Nat) (f g : Nat → Int32) : Prop := ∀ j, j < 6 → (f j = nn ∧ g j = I 1000000) ∨ ∃ c, c ≤ B ∧ f j = I c ∧ g j = I c
theorem Way.mono {B C : Nat} {f g : Nat → Int32} (h : Way B f g) (hb : B ≤ C) : Way C f g := by
  intro j hj
  rcases h j hj with w | ⟨c, hc, w⟩
  · exact Or.inl w
  · exact Or.inr ⟨c, by omega, w⟩
theorem Way.set {B C u v : Nat} {f g : Nat → Int32} (h : Way B f g) (hb : B ≤ C) (hv : v ≤ C) : Way C (upd f u (I v)) (upd g u (I v)) := by
  intro j hj
  rw [upd_at, upd_at]
  by_cases d : j = u
  · rw [if_pos d, if_pos d]; exact Or.inr ⟨v, hv, rfl, rfl⟩
  · rw [if_neg d, if_neg d]; exact h.mono hb j hj
set_option maxHeartbeats 1000000 in
theorem way_step {N : Nat} {cs cw ct cl cb mm : St} (h : Rel N cs cw ct cl cb mm) {k B : Nat} {f g : Nat → Int32} (hk : k < 30) (hB : B ≤ 20000) (hw : Way B f g) (x1 x2 y : Int32) : ∃ f' g', Way (B + 100) f' g' ∧ (∀ u, f u ≠ nn → f' u ≠ nn) ∧ (∀ k32 rec, fX3_measureWays_S40 k32 rec cw y (pF ct 15 f) (I k) = rec (pF ct 15 f', I (k + 1))) ∧ (∀ k55 rec, fX6_found_S63 k55 rec x1 x2 (pF mm 38 g) (I k) = rec (pF mm 38 g', I (k + 1))) := by
  have hr : Rel N cs cw (pF ct 15 f) cl cb (pF mm 38 g) := h
  have t15 : (pF ct 15 f) 15 = f := rfl
  have m38 : (pF mm 38 g) 38 = g := rfl
  have m3 : (pF mm 38 g) 3 = mm 3 := rfl
  have m4 : (pF mm 38 g) 4 = mm 4 := rfl
  have hs : k / 5 < 6 := by omega
  rcases pass_both hr hk with ⟨p1, p2⟩ | ⟨j, c, hj, a2, a3, c0, a5, a6, a7, c1, -, -, p1, p2⟩
  · refine ⟨f, g, hw.mono (by omega), fun _ hh => hh, fun k32 rec => ?_, fun k55 rec => ?_⟩
    · by_cases z : f (k / 5) = nn
      · simp (disch := omega) only [fX3_measureWays_S40, ck1, bd1, bx1, bx2, aS_at, iS_at, upd_at, ↓reduceIte, Nat.reduceEqDiff, Nat.reduceAdd, Nat.reduceMul, Nat.reduceSub, Nat.reduceDiv, Nat.reduceLT, Nat.reduceLeDiff, Nat.reduceBEq, ne_eq, not_true_eq_false, not_false_eq_true, reduceCtorEq, if_true, if_false, eq_self, Nat.add_zero, Nat.zero_add, lit, lit_nn, I_nat, I_add, I_mul, I_sub, I_div, inb_t, I_ne, I_nn, nn_I, nn_lt, nn_le, lt_nn, le_nn, I_t, I_f, I_lt_t, I_lt_f, isb_0, isb_1, vz_0, vz_1, nn_nat, t15, z]
      · simp (disch := omega) only [fX3_measureWays_S40, ck1, bd1, bx1, bx2, aS_at, iS_at, upd_at, ↓reduceIte, Nat.reduceEqDiff, Nat.reduceAdd, Nat.reduceMul, Nat.reduceSub, Nat.reduceDiv, Nat.reduceLT, Nat.reduceLeDiff, Nat.reduceBEq, ne_eq, not_true_eq_false, not_false_eq_true, reduceCtorEq, if_true, if_false, eq_self, Nat.add_zero, Nat.zero_add, lit, lit_nn, I_nat, I_add, I_mul, I_sub, I_div, inb_t, I_ne, I_nn, nn_I, nn_lt, nn_le, lt_nn, le_nn, I_t, I_f, I_lt_t, I_lt_f, isb_0, isb_1, vz_0, vz_1, nn_nat, t15, z, p1]
    · simp (disch := omega) only [fX6_found_S63, ck1, bd1, bx1, bx2, aS_at, iS_at, upd_at, ↓reduceIte, Nat.reduceEqDiff, Nat.reduceAdd, Nat.reduceMul, Nat.reduceSub, Nat.reduceDiv, Nat.reduceLT, Nat.reduceLeDiff, Nat.reduceBEq, ne_eq, not_true_eq_false, not_false_eq_true, reduceCtorEq, if_true, if_false, eq_self, Nat.add_zero, Nat.zero_add, lit, lit_nn, I_nat, I_add, I_mul, I_sub, I_div, inb_t, I_ne, I_nn, nn_I, nn_lt, nn_le, lt_nn, le_nn, I_t, I_f, I_lt_t, I_lt_f, isb_0, isb_1, vz_0, vz_1, nn_nat, p2]
  · rw [m3] at a2 a3
    rw [m4] at a7
    have hu : j / 5 < 6 := by omega
    rcases hw (k / 5) hs with ⟨z1, z2⟩ | ⟨d, hd, z1, z2⟩
    · refine ⟨f, g, hw.mono (by omega), fun _ hh => hh, fun k32 rec => ?_, fun k55 rec => ?_⟩
      · simp (disch := omega) only [fX3_measureWays_S40, ck1, bd1, bx1, bx2, aS_at, iS_at, upd_at, ↓reduceIte, Nat.reduceEqDiff, Nat.reduceAdd, Nat.reduceMul, Nat.reduceSub, Nat.reduceDiv, Nat.reduceLT, Nat.reduceLeDiff, Nat.reduceBEq, ne_eq, not_true_eq_false, not_false_eq_true, reduceCtorEq, if_true, if_false, eq_self, Nat.add_zero, Nat.zero_add, lit, lit_nn, I_nat, I_add, I_mul, I_sub, I_div, inb_t, I_ne, I_nn, nn_I, nn_lt, nn_le, lt_nn, le_nn, I_t, I_f, I_lt_t, I_lt_f, isb_0, isb_1, vz_0, vz_1, nn_nat, t15, z1]
      · rcases hw (j / 5) hu with ⟨y1, y2⟩ | ⟨e, he, y1, y2⟩
        · simp (disch := omega) only [fX6_found_S63, ck1, bd1, bx1, bx2, aS_at, iS_at, upd_at, ↓reduceIte, Nat.reduceEqDiff, Nat.reduceAdd, Nat.reduceMul, Nat.reduceSub, Nat.reduceDiv, Nat.reduceLT, Nat.reduceLeDiff, Nat.reduceBEq, ne_eq, not_true_eq_false, not_false_eq_true, reduceCtorEq, if_true, if_false, eq_self, Nat.add_zero, Nat.zero_add, lit, lit_nn, I_nat, I_add, I_mul, I_sub, I_div, inb_t, I_ne, I_nn, nn_I, nn_lt, nn_le, lt_nn, le_nn, I_t, I_f, I_lt_t, I_lt_f, isb_0, isb_1, vz_0, vz_1, nn_nat, p2, m3, m4, m38, a2, a7, z2, y2]
        · simp (disch := omega) only [fX6_found_S63, ck1, bd1, bx1, bx2, aS_at, iS_at, upd_at, ↓reduceIte, Nat.reduceEqDiff, Nat.reduceAdd, Nat.reduceMul, Nat.reduceSub, Nat.reduceDiv, Nat.reduceLT, Nat.reduceLeDiff, Nat.reduceBEq, ne_eq, not_true_eq_false, not_false_eq_true, reduceCtorEq, if_true, if_false, eq_self, Nat.add_zero, Nat.zero_add, lit, lit_nn, I_nat, I_add, I_mul, I_sub, I_div, inb_t, I_ne, I_nn, nn_I, nn_lt, nn_le, lt_nn, le_nn, I_t, I_f, I_lt_t, I_lt_f, isb_0, isb_1, vz_0, vz_1, nn_nat, p2, m3, m4, m38, a2, a7, z2, y2]
    · rcases hw (j / 5) hu with ⟨y1, y2⟩ | ⟨e, he, y1, y2⟩
      · refine ⟨upd f (j / 5) (I (d + c)), upd g (j / 5) (I (d + c)), hw.set (by omega) (by omega), upd_ne (by omega), fun k32 rec => ?_, fun k55 rec => ?_⟩
        · simp (disch := omega) only [fX3_measureWays_S40, fX3_shorten, fX3_shorten_J20, aS_pF, ck1, bd1, bx1, bx2, aS_at, iS_at, upd_at, ↓reduceIte, Nat.reduceEqDiff, Nat.reduceAdd, Nat.reduceMul, Nat.reduceSub, Nat.reduceDiv, Nat.reduceLT, Nat.reduceLeDiff, Nat.reduceBEq, ne_eq, not_true_eq_false, not_false_eq_true, reduceCtorEq, if_true, if_false, eq_self, Nat.add_zero, Nat.zero_add, lit, lit_nn, I_nat, I_add, I_mul, I_sub, I_div, inb_t, I_ne, I_nn, nn_I, nn_lt, nn_le, lt_nn, le_nn, I_t, I_f, I_lt_t, I_lt_f, isb_0, isb_1, vz_0, vz_1, nn_nat, t15, z1, p1, c0, c1, y1]
        · simp (disch := omega) only [fX6_found_S63, aS_pF, ck1, bd1, bx1, bx2, aS_at, iS_at, upd_at, ↓reduceIte, Nat.reduceEqDiff, Nat.reduceAdd, Nat.reduceMul, Nat.reduceSub, Nat.reduceDiv, Nat.reduceLT, Nat.reduceLeDiff, Nat.reduceBEq, ne_eq, not_true_eq_false, not_false_eq_true, reduceCtorEq, if_true, if_false, eq_self, Nat.add_zero, Nat.zero_add, lit, lit_nn, I_nat, I_add, I_mul, I_sub, I_div, inb_t, I_ne, I_nn, nn_I, nn_lt, nn_le, lt_nn, le_nn, I_t, I_f, I_lt_t, I_lt_f, isb_0, isb_1, vz_0, vz_1, nn_nat, p2, m3, m4, m38, a2, a7, z2, y2]
      · by_cases q : e ≤ d + c
        · refine ⟨f, g, hw.mono (by omega), fun _ hh => hh, fun k32 rec => ?_, fun k55 rec => ?_⟩
          · simp (disch := omega) only [fX3_measureWays_S40, fX3_shorten, fX3_shorten_J20, aS_pF, ck1, bd1, bx1, bx2, aS_at, iS_at, upd_at, ↓reduceIte, Nat.reduceEqDiff, Nat.reduceAdd, Nat.reduceMul, Nat.reduceSub, Nat.reduceDiv, Nat.reduceLT, Nat.reduceLeDiff, Nat.reduceBEq, ne_eq, not_true_eq_false, not_false_eq_true, reduceCtorEq, if_true, if_false, eq_self, Nat.add_zero, Nat.zero_add, lit, lit_nn, I_nat, I_add, I_mul, I_sub, I_div, inb_t, I_ne, I_nn, nn_I, nn_lt, nn_le, lt_nn, le_nn, I_t, I_f, I_lt_t, I_lt_f, isb_0, isb_1, vz_0, vz_1, nn_nat, t15, z1, p1, c0, c1, y1]
          · simp (disch := omega) only [fX6_found_S63, aS_pF, ck1, bd1, bx1, bx2, aS_at, iS_at, upd_at, ↓reduceIte, Nat.reduceEqDiff, Nat.reduceAdd, Nat.reduceMul, Nat.reduceSub, Nat.reduceDiv, Nat.reduceLT, Nat.reduceLeDiff, Nat.reduceBEq, ne_eq, not_true_eq_false, not_false_eq_true, reduceCtorEq, if_true, if_false, eq_self, Nat.add_zero, Nat.zero_add, lit, lit_nn, I_nat, I_add, I_mul, I_sub, I_div, inb_t, I_ne, I_nn, nn_I, nn_lt, nn_le, lt_nn, le_nn, I_t, I_f, I_lt_t, I_lt_f, isb_0, isb_1, vz_0, vz_1, nn_nat, p2, m3, m4, m38, a2, a7, z2, y2]
        · refine ⟨upd f (j / 5) (I (d + c)), upd g (j / 5) (I (d + c)), hw.set (by omega) (by omega), upd_ne (by omega), fun k32 rec => ?_, fun k55 rec => ?_⟩
          · simp (disch := omega) only [fX3_measureWays_S40, fX3_shorten, fX3_shorten_J20, aS_pF, ck1, bd1, bx1, bx2, aS_at, iS_at, upd_at, ↓reduceIte, Nat.reduceEqDiff, Nat.reduceAdd, Nat.reduceMul, Nat.reduceSub, Nat.reduceDiv, Nat.reduceLT, Nat.reduceLeDiff, Nat.reduceBEq, ne_eq, not_true_eq_false, not_false_eq_true, reduceCtorEq, if_true, if_false, eq_self, Nat.add_zero, Nat.zero_add, lit, lit_nn, I_nat, I_add, I_mul, I_sub, I_div, inb_t, I_ne, I_nn, nn_I, nn_lt, nn_le, lt_nn, le_nn, I_t, I_f, I_lt_t, I_lt_f, isb_0, isb_1, vz_0, vz_1, nn_nat, t15, z1, p1, c0, c1, y1]
          · simp (disch := omega) only [fX6_found_S63, aS_pF, ck1, bd1, bx1, bx2, aS_at, iS_at, upd_at, ↓reduceIte, Nat.reduceEqDiff, Nat.reduceAdd, Nat.reduceMul, Nat.reduceSub, Nat.reduceDiv, Nat.reduceLT, Nat.reduceLeDiff, Nat.reduceBEq, ne_eq, not_true_eq_false, not_false_eq_true, reduceCtorEq, if_true, if_false, eq_self, Nat.add_zero, Nat.zero_add, lit, lit_nn, I_nat, I_add, I_mul, I_sub, I_div, inb_t, I_ne, I_nn, nn_I, nn_lt, nn_le, lt_nn, le_nn, I_t, I_f, I_lt_t, I_lt_f, isb_0, isb_1, vz_0, vz_1, nn_nat, p2, m3, m4, m38, a2, a7, z2, y2]

/-! ===== the reference holds the best ===== -/
theorem bI_30 : bI 30 = nn := rfl
theorem bI_ne {b : Nat} (h : b < 30) : bI b = I b := by unfold bI; rw [if_neg (by omega)]
theorem best_m {V : Nat → Nat → Nat} {mm : St} (hN : TN V (mm 2)) (hT : TC V (mm 20) (mm 21) (mm 22) (mm 3) (mm 4)) (hB : TB V) {s a : Nat} (hs : s < 6) (D : Nat → Prop) (hD : ∀ x, D x → x < 30 ∧ x / 5 = s)
    (hx : (a = 0 ∧ ∀ x, x < 30 → x / 5 = s → (D x ↔ V 5 x ≠ 0 ∧ V 2 x < 7 ∧ mm 6 x ≠ I 1)) ∨ (a = 1 ∧ ∀ x, x < 30 → x / 5 = s → (D x ↔ V 5 x ≠ 0 ∧ V 2 x < 7 ∧ mm 23 x ≠ I 0))) :
    ∃ b, fX6_best mm (I s) (I a) = some (bI b) ∧ (b = 30 ∨ (b < 30 ∧ b / 5 = s ∧ V 5 b ≠ 0 ∧ V 2 b < 7)) ∧ Bs V s D b := by
  obtain ⟨b, ⟨u1, u2⟩, hl⟩ := loop_up (σ := Nat) (step := fun k a' => fX6_best_S7 k mm (I s) (I a) (a'.1) (a'.2)) (fun t b => (bI b, I (5 * s + t))) 5 (fun t b => (b = 30 ∨ (b < 30 ∧ b / 5 = s ∧ V 5 b ≠ 0 ∧ V 2 b < 7)) ∧ Bs V s (fun x => D x ∧ x < 5 * s + t) b) (fun b => some (bI b))
    (by
      intro t b ht ⟨u1, u2⟩
      have hk5 : (5 * s + t) / 5 = s := by omega
      have hk : 5 * s + t < 30 := by omega
      obtain ⟨e1, e2⟩ := hT (5 * s + t) hk
      have skip : ¬ D (5 * s + t) → Bs V s (fun x => D x ∧ x < 5 * s + (t + 1)) b := by
        intro z
        refine u2.same fun x => ⟨fun ⟨w1, w2⟩ => ⟨w1, ?_⟩, fun ⟨w1, w2⟩ => ⟨w1, by omega⟩⟩
        apply Classical.byContradiction
        intro w3
        have e : x = 5 * s + t := by omega
        subst e
        exact z w1
      have take : V 5 (5 * s + t) ≠ 0 → V 2 (5 * s + t) < 7 → D (5 * s + t) → (∀ rec, fX6_best_S7 rec mm (I s) (I a) (bI b) (I (5 * s + t)) = fX6_best_J73 rec mm (I s) (I a) (bI b) (I (5 * s + t)) (I 1)) → ∃ s', ((s' = 30 ∨ (s' < 30 ∧ s' / 5 = s ∧ V 5 s' ≠ 0 ∧ V 2 s' < 7)) ∧ Bs V s (fun x => D x ∧ x < 5 * s + (t + 1)) s') ∧ ∀ rec, fX6_best_S7 rec mm (I s) (I a) (bI b) (I (5 * s + t)) = rec (bI s', I (5 * s + (t + 1))) := by
        intro tk h7 hd ev
        refine ⟨_, ⟨?_, u2.add hk fun x => ?_⟩, fun rec => (ev rec).trans ?_⟩
        · by_cases z : V 5 (5 * s + t) ≠ 0 ∧ V 2 (5 * s + t) < 7 ∧ key V (5 * s + t) < hkey V s b
          · rw [if_pos z]; exact Or.inr ⟨hk, hk5, tk, h7⟩
          · rw [if_neg z]; exact u1
        · constructor
          · rintro ⟨w1, w2⟩
            by_cases e : x = 5 * s + t
            · exact Or.inr ⟨e, tk, h7⟩
            · exact Or.inl ⟨w1, by omega⟩
          · rintro (⟨w1, w2⟩ | ⟨e, -, -⟩)
            · exact ⟨w1, by omega⟩
            · subst e
              exact ⟨hd, by omega⟩
        · have hbb : b = 30 ∨ (b < 30 ∧ V 5 b ≠ 0) := by
            rcases u1 with w | w
            · exact Or.inl w
            · exact Or.inr ⟨w.1, w.2.2.1⟩
          have hm := better_m hN hT hB hk hs tk hbb
          by_cases z : key V (5 * s + t) < hkey V s b
          · rw [if_pos ⟨tk, h7, z⟩, bI_ne hk]
            rw [if_pos z] at hm
            simp (disch := omega) only [fX6_best_J73, hm, ck1, bd1, bx1, bx2, aS_at, iS_at, upd_at, ↓reduceIte, Nat.reduceEqDiff, Nat.reduceAdd, Nat.reduceMul, Nat.reduceSub, Nat.reduceDiv, Nat.reduceLT, Nat.reduceLeDiff, Nat.reduceBEq, ne_eq, not_true_eq_false, not_false_eq_true, reduceCtorEq, if_true, if_false, eq_self, Nat.add_zero, Nat.zero_add, lit, lit_nn, I_nat, I_add, I_mul, I_sub, I_div, inb_t, I_ne, I_nn, nn_I, nn_lt, nn_le, lt_nn, le_nn, I_t, I_f, I_lt_t, I_lt_f, isb_0, isb_1, vz_0, vz_1, nn_nat, I01, Nat.add_assoc]
          · rw [if_neg (fun w => z w.2.2)]
            rw [if_neg z] at hm
            simp (disch := omega) only [fX6_best_J73, hm, ck1, bd1, bx1, bx2, aS_at, iS_at, upd_at, ↓reduceIte, Nat.reduceEqDiff, Nat.reduceAdd, Nat.reduceMul, Nat.reduceSub, Nat.reduceDiv, Nat.reduceLT, Nat.reduceLeDiff, Nat.reduceBEq, ne_eq, not_true_eq_false, not_false_eq_true, reduceCtorEq, if_true, if_false, eq_self, Nat.add_zero, Nat.zero_add, lit, lit_nn, I_nat, I_add, I_mul, I_sub, I_div, inb_t, I_ne, I_nn, nn_I, nn_lt, nn_le, lt_nn, le_nn, I_t, I_f, I_lt_t, I_lt_f, isb_0, isb_1, vz_0, vz_1, nn_nat, I01, Nat.add_assoc]
      by_cases tk : V 5 (5 * s + t) = 0
      · have e3 := e1 tk
        refine ⟨b, ⟨u1, skip ?_⟩, fun rec => ?_⟩
        · intro w
          rcases hx with ⟨-, y⟩ | ⟨-, y⟩
          · exact ((y _ hk hk5).mp w).1 tk
          · exact ((y _ hk hk5).mp w).1 tk
        · simp (disch := omega) only [fX6_best_J73, fX6_best_J72, fX6_best_S7, fX6_best_L7, fX6_best, ck1, bd1, bx1, bx2, aS_at, iS_at, upd_at, ↓reduceIte, Nat.reduceEqDiff, Nat.reduceAdd, Nat.reduceMul, Nat.reduceSub, Nat.reduceDiv, Nat.reduceLT, Nat.reduceLeDiff, Nat.reduceBEq, ne_eq, not_true_eq_false, not_false_eq_true, reduceCtorEq, if_true, if_false, eq_self, Nat.add_zero, Nat.zero_add, lit, lit_nn, I_nat, I_add, I_mul, I_sub, I_div, inb_t, I_ne, I_nn, nn_I, nn_lt, nn_le, lt_nn, le_nn, I_t, I_f, I_lt_t, I_lt_f, isb_0, isb_1, vz_0, vz_1, nn_nat, e3, Nat.add_assoc]
      · obtain ⟨t1, t2, t3, t4, t5⟩ := e2 tk
        obtain ⟨a1, a2, a3, a4, a5, a6⟩ := hB.1 _ hk tk
        by_cases h7 : V 2 (5 * s + t) < 7
        · rcases hx with ⟨rfl, y⟩ | ⟨rfl, y⟩
          · by_cases g : mm 6 (5 * s + t) = I 1
            · refine ⟨b, ⟨u1, skip fun w => ((y _ hk hk5).mp w).2.2 g⟩, fun rec => ?_⟩
              simp (disch := omega) only [fX6_best_J73, fX6_best_J72, fX6_best_S7, fX6_best_L7, fX6_best, ck1, bd1, bx1, bx2, aS_at, iS_at, upd_at, ↓reduceIte, Nat.reduceEqDiff, Nat.reduceAdd, Nat.reduceMul, Nat.reduceSub, Nat.reduceDiv, Nat.reduceLT, Nat.reduceLeDiff, Nat.reduceBEq, ne_eq, not_true_eq_false, not_false_eq_true, reduceCtorEq, if_true, if_false, eq_self, Nat.add_zero, Nat.zero_add, lit, lit_nn, I_nat, I_add, I_mul, I_sub, I_div, inb_t, I_ne, I_nn, nn_I, nn_lt, nn_le, lt_nn, le_nn, I_t, I_f, I_lt_t, I_lt_f, isb_0, isb_1, vz_0, vz_1, nn_nat, t1, t3, g, Nat.add_assoc]
            · refine take tk h7 ((y _ hk hk5).mpr ⟨tk, h7, g⟩) fun rec => ?_
              simp (disch := omega) only [fX6_best_S7, ck1, bd1, bx1, bx2, aS_at, iS_at, upd_at, ↓reduceIte, Nat.reduceEqDiff, Nat.reduceAdd, Nat.reduceMul, Nat.reduceSub, Nat.reduceDiv, Nat.reduceLT, Nat.reduceLeDiff, Nat.reduceBEq, ne_eq, not_true_eq_false, not_false_eq_true, reduceCtorEq, if_true, if_false, eq_self, Nat.add_zero, Nat.zero_add, lit, lit_nn, I_nat, I_add, I_mul, I_sub, I_div, inb_t, I_ne, I_nn, nn_I, nn_lt, nn_le, lt_nn, le_nn, I_t, I_f, I_lt_t, I_lt_f, isb_0, isb_1, vz_0, vz_1, nn_nat, t1, t3, g]
          · by_cases g : mm 23 (5 * s + t) = I 0
            · refine ⟨b, ⟨u1, skip fun w => ((y _ hk hk5).mp w).2.2 g⟩, fun rec => ?_⟩
              simp (disch := omega) only [fX6_best_J73, fX6_best_J72, fX6_best_S7, fX6_best_L7, fX6_best, ck1, bd1, bx1, bx2, aS_at, iS_at, upd_at, ↓reduceIte, Nat.reduceEqDiff, Nat.reduceAdd, Nat.reduceMul, Nat.reduceSub, Nat.reduceDiv, Nat.reduceLT, Nat.reduceLeDiff, Nat.reduceBEq, ne_eq, not_true_eq_false, not_false_eq_true, reduceCtorEq, if_true, if_false, eq_self, Nat.add_zero, Nat.zero_add, lit, lit_nn, I_nat, I_add, I_mul, I_sub, I_div, inb_t, I_ne, I_nn, nn_I, nn_lt, nn_le, lt_nn, le_nn, I_t, I_f, I_lt_t, I_lt_f, isb_0, isb_1, vz_0, vz_1, nn_nat, t1, t3, g, I01, Nat.add_assoc]
            · refine take tk h7 ((y _ hk hk5).mpr ⟨tk, h7, g⟩) fun rec => ?_
              simp (disch := omega) only [fX6_best_S7, ck1, bd1, bx1, bx2, aS_at, iS_at, upd_at, ↓reduceIte, Nat.reduceEqDiff, Nat.reduceAdd, Nat.reduceMul, Nat.reduceSub, Nat.reduceDiv, Nat.reduceLT, Nat.reduceLeDiff, Nat.reduceBEq, ne_eq, not_true_eq_false, not_false_eq_true, reduceCtorEq, if_true, if_false, eq_self, Nat.add_zero, Nat.zero_add, lit, lit_nn, I_nat, I_add, I_mul, I_sub, I_div, inb_t, I_ne, I_nn, nn_I, nn_lt, nn_le, lt_nn, le_nn, I_t, I_f, I_lt_t, I_lt_f, isb_0, isb_1, vz_0, vz_1, nn_nat, t1, t3, g, I01]
        · refine ⟨b, ⟨u1, skip ?_⟩, fun rec => ?_⟩
          · intro w
            rcases hx with ⟨-, y⟩ | ⟨-, y⟩
            · exact h7 ((y _ hk hk5).mp w).2.1
            · exact h7 ((y _ hk hk5).mp w).2.1
          · simp (disch := omega) only [fX6_best_J73, fX6_best_J72, fX6_best_S7, fX6_best_L7, fX6_best, ck1, bd1, bx1, bx2, aS_at, iS_at, upd_at, ↓reduceIte, Nat.reduceEqDiff, Nat.reduceAdd, Nat.reduceMul, Nat.reduceSub, Nat.reduceDiv, Nat.reduceLT, Nat.reduceLeDiff, Nat.reduceBEq, ne_eq, not_true_eq_false, not_false_eq_true, reduceCtorEq, if_true, if_false, eq_self, Nat.add_zero, Nat.zero_add, lit, lit_nn, I_nat, I_add, I_mul, I_sub, I_div, inb_t, I_ne, I_nn, nn_I, nn_lt, nn_le, lt_nn, le_nn, I_t, I_f, I_lt_t, I_lt_f, isb_0, isb_1, vz_0, vz_1, nn_nat, t1, t3, Nat.add_assoc])
    (by
      intro b _ rec
      simp (disch := omega) only [fX6_best_S7, ck1, bd1, bx1, bx2, aS_at, iS_at, upd_at, ↓reduceIte, Nat.reduceEqDiff, Nat.reduceAdd, Nat.reduceMul, Nat.reduceSub, Nat.reduceDiv, Nat.reduceLT, Nat.reduceLeDiff, Nat.reduceBEq, ne_eq, not_true_eq_false, not_false_eq_true, reduceCtorEq, if_true, if_false, eq_self, Nat.add_zero, Nat.zero_add, lit, lit_nn, I_nat, I_add, I_mul, I_sub, I_div, inb_t, I_ne, I_nn, nn_I, nn_lt, nn_le, lt_nn, le_nn, I_t, I_f, I_lt_t, I_lt_f, isb_0, isb_1, vz_0, vz_1, nn_nat])
    5 0 30 1000 (by omega) (by omega) ⟨Or.inl rfl, Or.inl ⟨rfl, fun x ⟨w1, w2⟩ => by have := hD x w1; omega⟩⟩
  refine ⟨b, ?_, u1, u2.same fun x => ⟨fun w => ⟨w, by have := hD x w; omega⟩, fun w => w.1⟩⟩
  rw [← hl]
  simp (disch := omega) only [fX6_best, fX6_best_L7, ck1, bd1, bx1, bx2, aS_at, iS_at, upd_at, ↓reduceIte, Nat.reduceEqDiff, Nat.reduceAdd, Nat.reduceMul, Nat.reduceSub, Nat.reduceDiv, Nat.reduceLT, Nat.reduceLeDiff, Nat.reduceBEq, ne_eq, not_true_eq_false, not_false_eq_true, reduceCtorEq, if_true, if_false, eq_self, Nat.add_zero, Nat.zero_add, lit, lit_nn, I_nat, I_add, I_mul, I_sub, I_div, inb_t, I_ne, I_nn, nn_I, nn_lt, nn_le, lt_nn, le_nn, I_t, I_f, I_lt_t, I_lt_f, isb_0, isb_1, vz_0, vz_1, nn_nat, bI_30]
def Frh (s : Nat) (a b : St) : Prop := (∀ q, q < 16 ∨ 19 < q → q ≠ 23 → b q = a q) ∧ (∀ q j, q ≠ 23 → j ≠ s → b q j = a q j) ∧ ∀ x, x / 5 ≠ s → b 23 x = a 23 x
def HeldM (V : Nat → Nat → Nat) (s b : Nat) (f1 f2 f3 f4 : Nat → Int32) : Prop := (b = 30 ∧ f1 s = I s ∧ f2 s = I 0 ∧ f3 s = I 0 ∧ f4 s = nn) ∨ (b < 30 ∧ b / 5 = s ∧ V 5 b ≠ 0 ∧ V 2 b < 7 ∧ f1 s = I (V 0 b) ∧ f2 s = I (V 1 b + V 4 b) ∧ f3 s = I (V 2 b + 1) ∧ f4 s = I b)
def Cnt3 (V : Nat → Nat → Nat) (s b1 : Nat) (f : Nat → Int32) (x : Nat) : Prop := (f x = I 1 ∧ Ct V s b1 x) ∨ (f x = I 0 ∧ ¬ Ct V s b1 x)
theorem holds_m {V : Nat → Nat → Nat} {mm : St} (hN : TN V (mm 2)) (hT : TC V (mm 20) (mm 21) (mm 22) (mm 3) (mm 4)) (hB : TB V) (hG : TG V (mm 6)) {s : Nat} (hs : s < 6) : ∃ b1 b mm', fX6_holds mm (I s) = some mm' ∧ Frh s mm mm' ∧ HeldM V s b (mm' 16) (mm' 17) (mm' 18) (mm' 19) ∧ Bs V s (Ug V s) b1 ∧ Bs V s (Zg V s b1) b ∧ ∀ x, x < 30 → x / 5 = s → Cnt3 V s b1 (mm' 23) x := by
  obtain ⟨b1, g1, g2, g3⟩ := best_m hN hT hB (a := 0) hs (Ug V s) (fun x w => ⟨w.1, w.2.1⟩) (Or.inl ⟨rfl, fun x hx h5 => by
    obtain ⟨y1, y2⟩ := hG x hx
    rw [y2, ne_eq (I _), I_inj (by omega) (by omega)]
    exact ⟨fun w => ⟨w.2.2.1, w.2.2.2.1, w.2.2.2.2⟩, fun w => ⟨hx, h5, w⟩⟩⟩)
  have hr6 : rt V s b1 < 6 := by
    rcases g2 with e | ⟨e, -, tb, -⟩
    · unfold rt; rw [if_pos e]; exact hs
    · unfold rt; rw [if_neg (by omega)]; exact (hB.1 _ e tb).1
  have h22 : fX6_holds mm (I s) = fX6_holds_J22 mm (I s) (I (rt V s b1)) := by
    rcases g2 with e | ⟨e, -, tb, -⟩
    · rw [e] at g1 ⊢
      simp (disch := omega) only [fX6_holds, ck1, bd1, bx1, bx2, aS_at, iS_at, upd_at, ↓reduceIte, Nat.reduceEqDiff, Nat.reduceAdd, Nat.reduceMul, Nat.reduceSub, Nat.reduceDiv, Nat.reduceLT, Nat.reduceLeDiff, Nat.reduceBEq, ne_eq, not_true_eq_false, not_false_eq_true, reduceCtorEq, if_true, if_false, eq_self, Nat.add_zero, Nat.zero_add, lit, lit_nn, I_nat, I_add, I_mul, I_sub, I_div, inb_t, I_ne, I_nn, nn_I, nn_lt, nn_le, lt_nn, le_nn, I_t, I_f, I_lt_t, I_lt_f, isb_0, isb_1, vz_0, vz_1, nn_nat, g1, bI_30]
      rfl
    · rw [bI_ne e] at g1
      obtain ⟨t1, -⟩ := (hT b1 e).2 tb
      have er : rt V s b1 = V 0 b1 := by unfold rt; rw [if_neg (by omega)]
      simp (disch := omega) only [fX6_holds, ck1, bd1, bx1, bx2, aS_at, iS_at, upd_at, ↓reduceIte, Nat.reduceEqDiff, Nat.reduceAdd, Nat.reduceMul, Nat.reduceSub, Nat.reduceDiv, Nat.reduceLT, Nat.reduceLeDiff, Nat.reduceBEq, ne_eq, not_true_eq_false, not_false_eq_true, reduceCtorEq, if_true, if_false, eq_self, Nat.add_zero, Nat.zero_add, lit, lit_nn, I_nat, I_add, I_mul, I_sub, I_div, inb_t, I_ne, I_nn, nn_I, nn_lt, nn_le, lt_nn, le_nn, I_t, I_f, I_lt_t, I_lt_f, isb_0, isb_1, vz_0, vz_1, nn_nat, g1, t1, er]
  obtain ⟨f, ⟨u1, u2⟩, hl⟩ := loop_up (σ := Nat → Int32) (step := fun k a => fX6_holds_S28 k (I s) (I (rt V s b1)) (a.1) (a.2)) (fun t f => (pF mm 23 f, I (5 * s + t))) 5 (fun t f => (∀ x, x / 5 ≠ s → f x = mm 23 x) ∧ ∀ x, x / 5 = s → x < 5 * s + t → Cnt3 V s b1 f x) (fun f => fX6_holds_J93 (pF mm 23 f) (I s))
    (by
      intro t f ht ⟨u1, u2⟩
      have hk5 : (5 * s + t) / 5 = s := by omega
      have hk : 5 * s + t < 30 := by omega
      obtain ⟨e1, e2⟩ := hT (5 * s + t) hk
      obtain ⟨y1, y2⟩ := hG (5 * s + t) hk
      have m20 : (pF mm 23 f) 20 = mm 20 := rfl
      have m6 : (pF mm 23 f) 6 = mm 6 := rfl
      have put : ∀ v, ((v = I 1 ∧ Ct V s b1 (5 * s + t)) ∨ (v = I 0 ∧ ¬ Ct V s b1 (5 * s + t))) → (∀ x, x / 5 ≠ s → upd f (5 * s + t) v x = mm 23 x) ∧ ∀ x, x / 5 = s → x < 5 * s + (t + 1) → Cnt3 V s b1 (upd f (5 * s + t) v) x := by
        intro v hv
        refine ⟨fun x hx => ?_, fun x hx h2 => ?_⟩
        · rw [upd_at, if_neg (by omega)]; exact u1 x hx
        · unfold Cnt3
          rw [upd_at]
          by_cases e : x = 5 * s + t
          · rw [if_pos e, e]; exact hv
          · rw [if_neg e]; exact u2 x hx (by omega)
      by_cases tk : V 5 (5 * s + t) = 0
      · have e3 := e1 tk
        refine ⟨_, put (I 0) (Or.inr ⟨rfl, fun w => w.1 tk⟩), fun rec => ?_⟩
        simp (disch := omega) only [fX6_holds_S28, fX6_holds_J85, fX6_holds_J86, aS_pF, ck1, bd1, bx1, bx2, aS_at, iS_at, upd_at, ↓reduceIte, Nat.reduceEqDiff, Nat.reduceAdd, Nat.reduceMul, Nat.reduceSub, Nat.reduceDiv, Nat.reduceLT, Nat.reduceLeDiff, Nat.reduceBEq, ne_eq, not_true_eq_false, not_false_eq_true, reduceCtorEq, if_true, if_false, eq_self, Nat.add_zero, Nat.zero_add, lit, lit_nn, I_nat, I_add, I_mul, I_sub, I_div, inb_t, I_ne, I_nn, nn_I, nn_lt, nn_le, lt_nn, le_nn, I_t, I_f, I_lt_t, I_lt_f, isb_0, isb_1, vz_0, vz_1, nn_nat, m20, e3, Nat.add_assoc]
      · obtain ⟨t1, -⟩ := e2 tk
        have a1 := (hB.1 _ hk tk).1
        by_cases z : V 7 (5 * s + t) = 1
        · by_cases zz : nk V (V 0 (5 * s + t)) < nk V (rt V s b1)
          · refine ⟨_, put (I 0) (Or.inr ⟨rfl, fun w => ?_⟩), fun rec => ?_⟩
            · rcases w.2 with w | w
              · exact w z
              · exact w zz
            · simp (disch := omega) only [fX6_holds_S28, fX6_holds_J85, fX6_holds_J86, aS_pF, name_m (mm := pF mm 23 f) hN a1 hr6, ck1, bd1, bx1, bx2, aS_at, iS_at, upd_at, ↓reduceIte, Nat.reduceEqDiff, Nat.reduceAdd, Nat.reduceMul, Nat.reduceSub, Nat.reduceDiv, Nat.reduceLT, Nat.reduceLeDiff, Nat.reduceBEq, ne_eq, not_true_eq_false, not_false_eq_true, reduceCtorEq, if_true, if_false, eq_self, Nat.add_zero, Nat.zero_add, lit, lit_nn, I_nat, I_add, I_mul, I_sub, I_div, inb_t, I_ne, I_nn, nn_I, nn_lt, nn_le, lt_nn, le_nn, I_t, I_f, I_lt_t, I_lt_f, isb_0, isb_1, vz_0, vz_1, nn_nat, m20, m6, t1, y2, z, zz, I01, Nat.add_assoc]
          · refine ⟨_, put (I 1) (Or.inl ⟨rfl, tk, Or.inr zz⟩), fun rec => ?_⟩
            simp (disch := omega) only [fX6_holds_S28, fX6_holds_J85, fX6_holds_J86, aS_pF, name_m (mm := pF mm 23 f) hN a1 hr6, ck1, bd1, bx1, bx2, aS_at, iS_at, upd_at, ↓reduceIte, Nat.reduceEqDiff, Nat.reduceAdd, Nat.reduceMul, Nat.reduceSub, Nat.reduceDiv, Nat.reduceLT, Nat.reduceLeDiff, Nat.reduceBEq, ne_eq, not_true_eq_false, not_false_eq_true, reduceCtorEq, if_true, if_false, eq_self, Nat.add_zero, Nat.zero_add, lit, lit_nn, I_nat, I_add, I_mul, I_sub, I_div, inb_t, I_ne, I_nn, nn_I, nn_lt, nn_le, lt_nn, le_nn, I_t, I_f, I_lt_t, I_lt_f, isb_0, isb_1, vz_0, vz_1, nn_nat, m20, m6, t1, y2, z, zz, I01, Nat.add_assoc]
        · refine ⟨_, put (I 1) (Or.inl ⟨rfl, tk, Or.inl z⟩), fun rec => ?_⟩
          simp (disch := omega) only [fX6_holds_S28, fX6_holds_J85, fX6_holds_J86, aS_pF, ck1, bd1, bx1, bx2, aS_at, iS_at, upd_at, ↓reduceIte, Nat.reduceEqDiff, Nat.reduceAdd, Nat.reduceMul, Nat.reduceSub, Nat.reduceDiv, Nat.reduceLT, Nat.reduceLeDiff, Nat.reduceBEq, ne_eq, not_true_eq_false, not_false_eq_true, reduceCtorEq, if_true, if_false, eq_self, Nat.add_zero, Nat.zero_add, lit, lit_nn, I_nat, I_add, I_mul, I_sub, I_div, inb_t, I_ne, I_nn, nn_I, nn_lt, nn_le, lt_nn, le_nn, I_t, I_f, I_lt_t, I_lt_f, isb_0, isb_1, vz_0, vz_1, nn_nat, m20, m6, t1, y2, I_inj, z, I01, Nat.add_assoc])
    (by
      intro f _ rec
      simp (disch := omega) only [fX6_holds_S28, ck1, bd1, bx1, bx2, aS_at, iS_at, upd_at, ↓reduceIte, Nat.reduceEqDiff, Nat.reduceAdd, Nat.reduceMul, Nat.reduceSub, Nat.reduceDiv, Nat.reduceLT, Nat.reduceLeDiff, Nat.reduceBEq, ne_eq, not_true_eq_false, not_false_eq_true, reduceCtorEq, if_true, if_false, eq_self, Nat.add_zero, Nat.zero_add, lit, lit_nn, I_nat, I_add, I_mul, I_sub, I_div, inb_t, I_ne, I_nn, nn_I, nn_lt, nn_le, lt_nn, le_nn, I_t, I_f, I_lt_t, I_lt_f, isb_0, isb_1, vz_0, vz_1, nn_nat])
    5 0 (mm 23) 1000 (by omega) (by omega) ⟨fun _ _ => rfl, fun x hx h2 => by omega⟩
  obtain ⟨b, k1, k2, k3⟩ := best_m (mm := pF mm 23 f) hN hT hB (a := 1) hs (Zg V s b1) (fun x w => ⟨w.1, w.2.1⟩) (Or.inr ⟨rfl, fun x hx h5 => by
    have m23 : (pF mm 23 f) 23 = f := rfl
    rw [m23]
    rcases u2 x h5 (by omega) with ⟨w1, w2⟩ | ⟨w1, w2⟩
    · rw [w1, ne_eq (I _), I01]
      exact ⟨fun w => ⟨w2.1, w.2.2.1, id⟩, fun w => ⟨hx, h5, w.2.1, w2⟩⟩
    · rw [w1]
      exact ⟨fun w => absurd w.2.2.2 w2, fun w => absurd rfl w.2.2⟩⟩)
  have hl2 : fX6_holds mm (I s) = fX6_holds_J93 (pF mm 23 f) (I s) := by
    rw [h22, ← hl]
    rw [pF_self]
    simp (disch := omega) only [fX6_holds_J22, fX6_holds_L28, ck1, bd1, bx1, bx2, aS_at, iS_at, upd_at, ↓reduceIte, Nat.reduceEqDiff, Nat.reduceAdd, Nat.reduceMul, Nat.reduceSub, Nat.reduceDiv, Nat.reduceLT, Nat.reduceLeDiff, Nat.reduceBEq, ne_eq, not_true_eq_false, not_false_eq_true, reduceCtorEq, if_true, if_false, eq_self, Nat.add_zero, Nat.zero_add, lit, lit_nn, I_nat, I_add, I_mul, I_sub, I_div, inb_t, I_ne, I_nn, nn_I, nn_lt, nn_le, lt_nn, le_nn, I_t, I_f, I_lt_t, I_lt_f, isb_0, isb_1, vz_0, vz_1, nn_nat]
  have fr : ∀ a c d e, Frh s mm (aS (aS (aS (aS (pF mm 23 f) 19 (I s) a) 16 (I s) c) 17 (I s) d) 18 (I s) e) := by
    intro a c d e
    have es : (I s).toNatClampNeg = s := I_nat (by omega)
    have one : ∀ (σ : St) (k : Nat) (x : Int32) (q j : Nat), j ≠ s → aS σ k (I s) x q j = σ q j := by
      intro σ k x q j hj
      rw [aS_at]
      by_cases z : q = k
      · rw [if_pos z, es, upd_at, if_neg hj, z]
      · rw [if_neg z]
    refine ⟨fun q hq h23 => ?_, fun q j hq hj => ?_, fun x hx => ?_⟩
    · have n1 : ¬ q = 16 := by omega
      have n2 : ¬ q = 17 := by omega
      have n3 : ¬ q = 18 := by omega
      have n4 : ¬ q = 19 := by omega
      simp only [aS_at, pF_at, n1, n2, n3, n4, h23, ↓reduceIte]
    · rw [one _ _ _ _ _ hj, one _ _ _ _ _ hj, one _ _ _ _ _ hj, one _ _ _ _ _ hj, pF_at, if_neg hq]
    · have e23 : (aS (aS (aS (aS (pF mm 23 f) 19 (I s) a) 16 (I s) c) 17 (I s) d) 18 (I s) e) 23 = f := rfl
      rw [e23]
      exact u1 x hx
  rcases k2 with rfl | ⟨e, e5, tb, tb7⟩
  · rw [bI_30] at k1
    refine ⟨b1, 30, _, ?_, fr nn (I s) (I 0) (I 0), Or.inl ⟨rfl, ?_, ?_, ?_, ?_⟩, g3, k3, ?_⟩
    · rw [hl2]
      simp (disch := omega) only [fX6_holds_J93, fX6_holds_J131, fX6_holds_J162, fX6_holds_J187, ck1, bd1, bx1, bx2, aS_at, iS_at, upd_at, ↓reduceIte, Nat.reduceEqDiff, Nat.reduceAdd, Nat.reduceMul, Nat.reduceSub, Nat.reduceDiv, Nat.reduceLT, Nat.reduceLeDiff, Nat.reduceBEq, ne_eq, not_true_eq_false, not_false_eq_true, reduceCtorEq, if_true, if_false, eq_self, Nat.add_zero, Nat.zero_add, lit, lit_nn, I_nat, I_add, I_mul, I_sub, I_div, inb_t, I_ne, I_nn, nn_I, nn_lt, nn_le, lt_nn, le_nn, I_t, I_f, I_lt_t, I_lt_f, isb_0, isb_1, vz_0, vz_1, nn_nat, k1]
    · simp (disch := omega) only [ck1, bd1, bx1, bx2, aS_at, iS_at, upd_at, ↓reduceIte, Nat.reduceEqDiff, Nat.reduceAdd, Nat.reduceMul, Nat.reduceSub, Nat.reduceDiv, Nat.reduceLT, Nat.reduceLeDiff, Nat.reduceBEq, ne_eq, not_true_eq_false, not_false_eq_true, reduceCtorEq, if_true, if_false, eq_self, Nat.add_zero, Nat.zero_add, lit, lit_nn, I_nat, I_add, I_mul, I_sub, I_div, inb_t, I_ne, I_nn, nn_I, nn_lt, nn_le, lt_nn, le_nn, I_t, I_f, I_lt_t, I_lt_f, isb_0, isb_1, vz_0, vz_1, nn_nat]
    · simp (disch := omega) only [ck1, bd1, bx1, bx2, aS_at, iS_at, upd_at, ↓reduceIte, Nat.reduceEqDiff, Nat.reduceAdd, Nat.reduceMul, Nat.reduceSub, Nat.reduceDiv, Nat.reduceLT, Nat.reduceLeDiff, Nat.reduceBEq, ne_eq, not_true_eq_false, not_false_eq_true, reduceCtorEq, if_true, if_false, eq_self, Nat.add_zero, Nat.zero_add, lit, lit_nn, I_nat, I_add, I_mul, I_sub, I_div, inb_t, I_ne, I_nn, nn_I, nn_lt, nn_le, lt_nn, le_nn, I_t, I_f, I_lt_t, I_lt_f, isb_0, isb_1, vz_0, vz_1, nn_nat]
    · simp (disch := omega) only [ck1, bd1, bx1, bx2, aS_at, iS_at, upd_at, ↓reduceIte, Nat.reduceEqDiff, Nat.reduceAdd, Nat.reduceMul, Nat.reduceSub, Nat.reduceDiv, Nat.reduceLT, Nat.reduceLeDiff, Nat.reduceBEq, ne_eq, not_true_eq_false, not_false_eq_true, reduceCtorEq, if_true, if_false, eq_self, Nat.add_zero, Nat.zero_add, lit, lit_nn, I_nat, I_add, I_mul, I_sub, I_div, inb_t, I_ne, I_nn, nn_I, nn_lt, nn_le, lt_nn, le_nn, I_t, I_f, I_lt_t, I_lt_f, isb_0, isb_1, vz_0, vz_1, nn_nat]
    · simp (disch := omega) only [ck1, bd1, bx1, bx2, aS_at, iS_at, upd_at, ↓reduceIte, Nat.reduceEqDiff, Nat.reduceAdd, Nat.reduceMul, Nat.reduceSub, Nat.reduceDiv, Nat.reduceLT, Nat.reduceLeDiff, Nat.reduceBEq, ne_eq, not_true_eq_false, not_false_eq_true, reduceCtorEq, if_true, if_false, eq_self, Nat.add_zero, Nat.zero_add, lit, lit_nn, I_nat, I_add, I_mul, I_sub, I_div, inb_t, I_ne, I_nn, nn_I, nn_lt, nn_le, lt_nn, le_nn, I_t, I_f, I_lt_t, I_lt_f, isb_0, isb_1, vz_0, vz_1, nn_nat]
    · exact fun x hx h5 => u2 x h5 (by omega)
  · rw [bI_ne e] at k1
    obtain ⟨t1, t2, t3, t4, t5⟩ := (hT b e).2 tb
    have m20 : (pF mm 23 f) 20 = mm 20 := rfl
    have m21 : (pF mm 23 f) 21 = mm 21 := rfl
    have m22 : (pF mm 23 f) 22 = mm 22 := rfl
    have m4 : (pF mm 23 f) 4 = mm 4 := rfl
    refine ⟨b1, b, _, ?_, fr (I b) (I (V 0 b)) (I (V 1 b + V 4 b)) (I (V 2 b + 1)), Or.inr ⟨e, e5, tb, tb7, ?_, ?_, ?_, ?_⟩, g3, k3, ?_⟩
    · rw [hl2]
      simp (disch := omega) only [fX6_holds_J93, fX6_holds_J131, fX6_holds_J162, fX6_holds_J187, ck1, bd1, bx1, bx2, aS_at, iS_at, upd_at, ↓reduceIte, Nat.reduceEqDiff, Nat.reduceAdd, Nat.reduceMul, Nat.reduceSub, Nat.reduceDiv, Nat.reduceLT, Nat.reduceLeDiff, Nat.reduceBEq, ne_eq, not_true_eq_false, not_false_eq_true, reduceCtorEq, if_true, if_false, eq_self, Nat.add_zero, Nat.zero_add, lit, lit_nn, I_nat, I_add, I_mul, I_sub, I_div, inb_t, I_ne, I_nn, nn_I, nn_lt, nn_le, lt_nn, le_nn, I_t, I_f, I_lt_t, I_lt_f, isb_0, isb_1, vz_0, vz_1, nn_nat, k1, m20, m21, m22, m4, t1, t2, t3, t5]
    · simp (disch := omega) only [ck1, bd1, bx1, bx2, aS_at, iS_at, upd_at, ↓reduceIte, Nat.reduceEqDiff, Nat.reduceAdd, Nat.reduceMul, Nat.reduceSub, Nat.reduceDiv, Nat.reduceLT, Nat.reduceLeDiff, Nat.reduceBEq, ne_eq, not_true_eq_false, not_false_eq_true, reduceCtorEq, if_true, if_false, eq_self, Nat.add_zero, Nat.zero_add, lit, lit_nn, I_nat, I_add, I_mul, I_sub, I_div, inb_t, I_ne, I_nn, nn_I, nn_lt, nn_le, lt_nn, le_nn, I_t, I_f, I_lt_t, I_lt_f, isb_0, isb_1, vz_0, vz_1, nn_nat]
    · simp (disch := omega) only [ck1, bd1, bx1, bx2, aS_at, iS_at, upd_at, ↓reduceIte, Nat.reduceEqDiff, Nat.reduceAdd, Nat.reduceMul, Nat.reduceSub, Nat.reduceDiv, Nat.reduceLT, Nat.reduceLeDiff, Nat.reduceBEq, ne_eq, not_true_eq_false, not_false_eq_true, reduceCtorEq, if_true, if_false, eq_self, Nat.add_zero, Nat.zero_add, lit, lit_nn, I_nat, I_add, I_mul, I_sub, I_div, inb_t, I_ne, I_nn, nn_I, nn_lt, nn_le, lt_nn, le_nn, I_t, I_f, I_lt_t, I_lt_f, isb_0, isb_1, vz_0, vz_1, nn_nat]
    · simp (disch := omega) only [ck1, bd1, bx1, bx2, aS_at, iS_at, upd_at, ↓reduceIte, Nat.reduceEqDiff, Nat.reduceAdd, Nat.reduceMul, Nat.reduceSub, Nat.reduceDiv, Nat.reduceLT, Nat.reduceLeDiff, Nat.reduceBEq, ne_eq, not_true_eq_false, not_false_eq_true, reduceCtorEq, if_true, if_false, eq_self, Nat.add_zero, Nat.zero_add, lit, lit_nn, I_nat, I_add, I_mul, I_sub, I_div, inb_t, I_ne, I_nn, nn_I, nn_lt, nn_le, lt_nn, le_nn, I_t, I_f, I_lt_t, I_lt_f, isb_0, isb_1, vz_0, vz_1, nn_nat]
    · simp (disch := omega) only [ck1, bd1, bx1, bx2, aS_at, iS_at, upd_at, ↓reduceIte, Nat.reduceEqDiff, Nat.reduceAdd, Nat.reduceMul, Nat.reduceSub, Nat.reduceDiv, Nat.reduceLT, Nat.reduceLeDiff, Nat.reduceBEq, ne_eq, not_true_eq_false, not_false_eq_true, reduceCtorEq, if_true, if_false, eq_self, Nat.add_zero, Nat.zero_add, lit, lit_nn, I_nat, I_add, I_mul, I_sub, I_div, inb_t, I_ne, I_nn, nn_I, nn_lt, nn_le, lt_nn, le_nn, I_t, I_f, I_lt_t, I_lt_f, isb_0, isb_1, vz_0, vz_1, nn_nat]
    · exact fun x hx h5 => u2 x h5 (by omega)

/-! ===== what is told, as numbers: root 0, cost 1, hops 2, the teller's port 3, the wire's cost 4, whether 5; ranks 6, guards 7 ===== -/
def TC (V : Nat → Nat → Nat) (c10 c11 c12 w0 w1 : Nat → Int32) : Prop := ∀ x, x < 30 → (V 5 x = 0 → c10 x = nn) ∧ (V 5 x ≠ 0 → c10 x = I (V 0 x) ∧ c11 x = I (V 1 x) ∧ c12 x = I (V 2 x) ∧ w0 x = I (V 3 x) ∧ w1 x = I (V 4 x))
def TB (V : Nat → Nat → Nat) : Prop := (∀ x, x < 30 → V 5 x ≠ 0 → V 0 x < 6 ∧ V 1 x ≤ 100 * V 2 x ∧ V 2 x ≤ 7 ∧ V 3 x < 30 ∧ 1 ≤ V 4 x ∧ V 4 x ≤ 100) ∧ (∀ x y, x < 30 → y < 30 → V 5 x ≠ 0 → V 5 y ≠ 0 → V 3 x = V 3 y → x = y)
def TN (V : Nat → Nat → Nat) (r : Nat → Int32) : Prop := ∀ j, j < 6 → V 6 j < 16 ∧ r j = I (V 6 j)
def TG (V : Nat → Nat → Nat) (g : Nat → Int32) : Prop := ∀ x, x < 30 → V 7 x < 3 ∧ g x = I (V 7 x)
def nk (V : Nat → Nat → Nat) (j : Nat) : Nat := V 6 j * 6 + j
def key (V : Nat → Nat → Nat) (x : Nat) : Nat := (nk V (V 0 x) * 1024 + (V 1 x + V 4 x)) * 4096 + (nk V (V 3 x / 5) * 32 + V 3 x)
def skey (V : Nat → Nat → Nat) (s : Nat) : Nat := nk V s * 1024 * 4096
def hkey (V : Nat → Nat → Nat) (s b : Nat) : Nat := if b = 30 then skey V s else key V b
theorem nk_lt {V : Nat → Nat → Nat} {r : Nat → Int32} (h : TN V r) {j : Nat} (hj : j < 6) : nk V j < 96 := by
  have := (h j hj).1
  unfold nk
  omega
theorem nk_inj {V : Nat → Nat → Nat} {r : Nat → Int32} (h : TN V r) {i j : Nat} (hi : i < 6) (hj : j < 6) (e : nk V i = nk V j) : i = j := by
  unfold nk at e
  omega
theorem name_c {V : Nat → Nat → Nat} {cw : St} (h : TN V (cw 5)) {a b : Nat} (ha : a < 6) (hb : b < 6) : fX4_isBetterName cw (I a) (I b) = some (I (if nk V a < nk V b then 1 else 0)) :=
  (name_both (cw := cw) (mm := fun _ => cw 5) ha hb (h a ha).1 (h b hb).1 (h a ha).2 (h b hb).2 rfl rfl).1
theorem name_m {V : Nat → Nat → Nat} {mm : St} (h : TN V (mm 2)) {a b : Nat} (ha : a < 6) (hb : b < 6) : fX6_isBetter mm (I a) (I b) = some (I (if nk V a < nk V b then 1 else 0)) :=
  (name_both (cw := fun _ => mm 2) (mm := mm) ha hb (h a ha).1 (h b hb).1 (h a ha).2 (h b hb).2 rfl rfl).2
/-- the best of a set, or the switch itself (30) -/
def Bst (D : Nat → Prop) (K : Nat → Nat) (S b : Nat) : Prop := (b = 30 ∧ ∀ x, D x → S ≤ K x) ∨ (b < 30 ∧ D b ∧ K b < S ∧ ∀ x, D x → K b ≤ K x)
theorem Bst.same {D D' : Nat → Prop} {K : Nat → Nat} {S b : Nat} (h : Bst D K S b) (e : ∀ x, D' x ↔ D x) : Bst D' K S b := by
  rcases h with ⟨h1, h2⟩ | ⟨h1, h2, h3, h4⟩
  · exact Or.inl ⟨h1, fun x hx => h2 x ((e x).mp hx)⟩
  · exact Or.inr ⟨h1, (e b).mpr h2, h3, fun x hx => h4 x ((e x).mp hx)⟩
theorem Bst.add {D D' : Nat → Prop} {K : Nat → Nat} {S b k : Nat} (h : Bst D K S b) (hk : k < 30) (e : ∀ x, D' x ↔ (D x ∨ x = k)) : Bst D' K S (if K k < (if b = 30 then S else K b) then k else b) := by
  rcases h with ⟨h1, h2⟩ | ⟨h1, h2, h3, h4⟩
  · subst h1
    rw [if_pos rfl]
    by_cases z : K k < S
    · rw [if_pos z]
      refine Or.inr ⟨hk, (e k).mpr (Or.inr rfl), z, fun x hx => ?_⟩
      rcases (e x).mp hx with w | w
      · have := h2 x w
        omega
      · subst w
        exact Nat.le_refl _
    · rw [if_neg z]
      refine Or.inl ⟨rfl, fun x hx => ?_⟩
      rcases (e x).mp hx with w | w
      · exact h2 x w
      · subst w
        omega
  · rw [if_neg (show ¬ b = 30 by omega)]
    by_cases z : K k < K b
    · rw [if_pos z]
      refine Or.inr ⟨hk, (e k).mpr (Or.inr rfl), by omega, fun x hx => ?_⟩
      rcases (e x).mp hx with w | w
      · have := h4 x w
        omega
      · subst w
        exact Nat.le_refl _
    · rw [if_neg z]
      refine Or.inr ⟨h1, (e b).mpr (Or.inl h2), h3, fun x hx => ?_⟩
      rcases (e x).mp hx with w | w
      · exact h4 x w
      · subst w
        omega
theorem Bst.uniq {D : Nat → Prop} {K : Nat → Nat} {S b c : Nat} (hi : ∀ x y, D x → D y → K x = K y → x = y) (h : Bst D K S b) (k : Bst D K S c) : b = c := by
  rcases h with ⟨h1, h2⟩ | ⟨h1, h2, h3, h4⟩
  · rcases k with ⟨k1, k2⟩ | ⟨k1, k2, k3, k4⟩
    · rw [h1, k1]
    · have := h2 c k2
      omega
  · rcases k with ⟨k1, k2⟩ | ⟨k1, k2, k3, k4⟩
    · have := k2 b h2
      omega
    · have := h4 c k2
      have := k4 b h2
      exact hi b c h2 k2 (by omega)
theorem key_inj {V : Nat → Nat → Nat} {r : Nat → Int32} (hN : TN V r) (hB : TB V) {x y : Nat} (hx : x < 30) (hy : y < 30) (tx : V 5 x ≠ 0) (ty : V 5 y ≠ 0) (e : key V x = key V y) : x = y := by
  obtain ⟨a1, a2, a3, a4, a5, a6⟩ := hB.1 x hx tx
  obtain ⟨b1, b2, b3, b4, b5, b6⟩ := hB.1 y hy ty
  have l1 := nk_lt hN (show V 3 x / 5 < 6 by omega)
  have l2 := nk_lt hN (show V 3 y / 5 < 6 by omega)
  unfold key at e
  exact hB.2 x y hx hy tx ty (by omega)
/-- what a switch holds after a choice, in the class -/
def HeldC (V : Nat → Nat → Nat) (s b : Nat) (f1 f2 f3 f4 : Nat → Int32) : Prop := (b = 30 ∧ f1 s = I s ∧ f2 s = I 0 ∧ f3 s = I 0 ∧ f4 s = nn) ∨ (b < 30 ∧ b / 5 = s ∧ V 5 b ≠ 0 ∧ V 2 b < 7 ∧ f1 s = I (V 0 b) ∧ f2 s = I (V 1 b + V 4 b) ∧ f3 s = I (V 2 b + 1) ∧ f4 s = I (b % 5))
theorem better_c {V : Nat → Nat → Nat} {ct cw : St} (hN : TN V (cw 5)) (hT : TC V (ct 10) (ct 11) (ct 12) (cw 0) (cw 1)) (hB : TB V) {s k b : Nat} (hk : k < 30) (hs : s < 6) (tk : V 5 k ≠ 0) (hh : HeldC V s b (ct 1) (ct 2) (ct 3) (ct 4)) : fX3_isBetterThanHeld ct cw (I s) (I k) = some (I (if key V k < hkey V s b then 1 else 0)) := by
  obtain ⟨t1, t2, t3, t4, t5⟩ := (hT k hk).2 tk
  obtain ⟨a1, a2, a3, a4, a5, a6⟩ := hB.1 k hk tk
  have l1 := nk_lt hN (show V 3 k / 5 < 6 by omega)
  have l2 := nk_lt hN a1
  have ns := nk_lt hN hs
  rcases hh with ⟨rfl, g1, g2, g3, g4⟩ | ⟨hb, hb5, tb, hb7, g1, g2, g3, g4⟩
  · have ek : hkey V s 30 = skey V s := by unfold hkey; rw [if_pos rfl]
    rw [ek]
    by_cases e : V 0 k = s
    · have z : ¬ key V k < skey V s := by unfold key skey; rw [e]; omega
      rw [if_neg z]
      simp (disch := omega) only [fX3_isBetterThanHeld, fX3_isBetterThanHeld_J72, ck1, bd1, bx1, bx2, aS_at, iS_at, upd_at, ↓reduceIte, Nat.reduceEqDiff, Nat.reduceAdd, Nat.reduceMul, Nat.reduceSub, Nat.reduceDiv, Nat.reduceLT, Nat.reduceLeDiff, Nat.reduceBEq, ne_eq, not_true_eq_false, not_false_eq_true, reduceCtorEq, if_true, if_false, eq_self, Nat.add_zero, Nat.zero_add, lit, lit_nn, I_nat, I_add, I_mul, I_sub, I_div, inb_t, I_ne, I_nn, nn_I, nn_lt, nn_le, lt_nn, le_nn, I_t, I_f, I_lt_t, I_lt_f, isb_0, isb_1, vz_0, vz_1, nn_nat, t1, t2, t5, g1, g2, g4, e]
    · have q : key V k < skey V s ↔ nk V (V 0 k) < nk V s := by
        have : ¬ _ := fun z => e (nk_inj hN a1 hs z)
        unfold key skey; omega
      simp (disch := omega) only [fX3_isBetterThanHeld, fX3_isBetterThanHeld_J72, name_c hN a1 hs, ck1, bd1, bx1, bx2, aS_at, iS_at, upd_at, ↓reduceIte, Nat.reduceEqDiff, Nat.reduceAdd, Nat.reduceMul, Nat.reduceSub, Nat.reduceDiv, Nat.reduceLT, Nat.reduceLeDiff, Nat.reduceBEq, ne_eq, not_true_eq_false, not_false_eq_true, reduceCtorEq, if_true, if_false, eq_self, Nat.add_zero, Nat.zero_add, lit, lit_nn, I_nat, I_add, I_mul, I_sub, I_div, inb_t, I_ne, I_nn, nn_I, nn_lt, nn_le, lt_nn, le_nn, I_t, I_f, I_lt_t, I_lt_f, isb_0, isb_1, vz_0, vz_1, nn_nat, t1, t2, t5, g1, g2, g4, q]
      by_cases z : nk V (V 0 k) < nk V s
      · simp only [z, if_true, isb_1, ck1]
      · simp only [z, if_false, isb_0, ck1]
  · have ek : hkey V s b = key V b := by unfold hkey; rw [if_neg (by omega)]
    rw [ek]
    obtain ⟨u1, u2, u3, u4, u5⟩ := (hT b hb).2 tb
    obtain ⟨b1, b2, b3, b4, b5, b6⟩ := hB.1 b hb tb
    have m1 := nk_lt hN (show V 3 b / 5 < 6 by omega)
    have m2 := nk_lt hN b1
    by_cases e : V 0 k = V 0 b
    · by_cases e2 : V 1 k + V 4 k = V 1 b + V 4 b
      · have es : s * 5 + b % 5 = b := by omega
        by_cases e3 : V 3 k / 5 = V 3 b / 5
        · have q : key V k < key V b ↔ V 3 k < V 3 b := by unfold key; rw [e, e2, e3]; omega
          simp (disch := omega) only [fX3_isBetterThanHeld, fX3_isBetterThanHeld_J72, fX5_spotOf, ck1, bd1, bx1, bx2, aS_at, iS_at, upd_at, ↓reduceIte, Nat.reduceEqDiff, Nat.reduceAdd, Nat.reduceMul, Nat.reduceSub, Nat.reduceDiv, Nat.reduceLT, Nat.reduceLeDiff, Nat.reduceBEq, ne_eq, not_true_eq_false, not_false_eq_true, reduceCtorEq, if_true, if_false, eq_self, Nat.add_zero, Nat.zero_add, lit, lit_nn, I_nat, I_add, I_mul, I_sub, I_div, inb_t, I_ne, I_nn, nn_I, nn_lt, nn_le, lt_nn, le_nn, I_t, I_f, I_lt_t, I_lt_f, isb_0, isb_1, vz_0, vz_1, nn_nat, t1, t2, t4, t5, g1, g2, g4, u4, e, e2, es, e3, q]
          by_cases z : V 3 k < V 3 b
          · simp (disch := omega) only [z, ck1, bd1, bx1, bx2, aS_at, iS_at, upd_at, ↓reduceIte, Nat.reduceEqDiff, Nat.reduceAdd, Nat.reduceMul, Nat.reduceSub, Nat.reduceDiv, Nat.reduceLT, Nat.reduceLeDiff, Nat.reduceBEq, ne_eq, not_true_eq_false, not_false_eq_true, reduceCtorEq, if_true, if_false, eq_self, Nat.add_zero, Nat.zero_add, lit, lit_nn, I_nat, I_add, I_mul, I_sub, I_div, inb_t, I_ne, I_nn, nn_I, nn_lt, nn_le, lt_nn, le_nn, I_t, I_f, I_lt_t, I_lt_f, isb_0, isb_1, vz_0, vz_1, nn_nat]
          · simp (disch := omega) only [z, ck1, bd1, bx1, bx2, aS_at, iS_at, upd_at, ↓reduceIte, Nat.reduceEqDiff, Nat.reduceAdd, Nat.reduceMul, Nat.reduceSub, Nat.reduceDiv, Nat.reduceLT, Nat.reduceLeDiff, Nat.reduceBEq, ne_eq, not_true_eq_false, not_false_eq_true, reduceCtorEq, if_true, if_false, eq_self, Nat.add_zero, Nat.zero_add, lit, lit_nn, I_nat, I_add, I_mul, I_sub, I_div, inb_t, I_ne, I_nn, nn_I, nn_lt, nn_le, lt_nn, le_nn, I_t, I_f, I_lt_t, I_lt_f, isb_0, isb_1, vz_0, vz_1, nn_nat]
        · have q : key V k < key V b ↔ nk V (V 3 k / 5) < nk V (V 3 b / 5) := by
            have : ¬ _ := fun z => e3 (nk_inj hN (show V 3 k / 5 < 6 by omega) (show V 3 b / 5 < 6 by omega) z)
            unfold key; rw [e, e2]; omega
          simp (disch := omega) only [fX3_isBetterThanHeld, fX3_isBetterThanHeld_J72, fX5_spotOf, name_c hN (show V 3 k / 5 < 6 by omega) (show V 3 b / 5 < 6 by omega), ck1, bd1, bx1, bx2, aS_at, iS_at, upd_at, ↓reduceIte, Nat.reduceEqDiff, Nat.reduceAdd, Nat.reduceMul, Nat.reduceSub, Nat.reduceDiv, Nat.reduceLT, Nat.reduceLeDiff, Nat.reduceBEq, ne_eq, not_true_eq_false, not_false_eq_true, reduceCtorEq, if_true, if_false, eq_self, Nat.add_zero, Nat.zero_add, lit, lit_nn, I_nat, I_add, I_mul, I_sub, I_div, inb_t, I_ne, I_nn, nn_I, nn_lt, nn_le, lt_nn, le_nn, I_t, I_f, I_lt_t, I_lt_f, isb_0, isb_1, vz_0, vz_1, nn_nat, t1, t2, t4, t5, g1, g2, g4, u4, e, e2, es, q]
          by_cases z : nk V (V 3 k / 5) < nk V (V 3 b / 5)
          · simp only [z, if_true, isb_1, ck1]
          · simp only [z, if_false, isb_0, ck1]
      · have q : key V k < key V b ↔ V 1 k + V 4 k < V 1 b + V 4 b := by unfold key; rw [e]; omega
        simp (disch := omega) only [fX3_isBetterThanHeld, fX3_isBetterThanHeld_J72, ck1, bd1, bx1, bx2, aS_at, iS_at, upd_at, ↓reduceIte, Nat.reduceEqDiff, Nat.reduceAdd, Nat.reduceMul, Nat.reduceSub, Nat.reduceDiv, Nat.reduceLT, Nat.reduceLeDiff, Nat.reduceBEq, ne_eq, not_true_eq_false, not_false_eq_true, reduceCtorEq, if_true, if_false, eq_self, Nat.add_zero, Nat.zero_add, lit, lit_nn, I_nat, I_add, I_mul, I_sub, I_div, inb_t, I_ne, I_nn, nn_I, nn_lt, nn_le, lt_nn, le_nn, I_t, I_f, I_lt_t, I_lt_f, isb_0, isb_1, vz_0, vz_1, nn_nat, t1, t2, t5, g1, g2, g4, e, q]
        by_cases z : V 1 k + V 4 k < V 1 b + V 4 b
        · simp (disch := omega) only [z, ck1, bd1, bx1, bx2, aS_at, iS_at, upd_at, ↓reduceIte, Nat.reduceEqDiff, Nat.reduceAdd, Nat.reduceMul, Nat.reduceSub, Nat.reduceDiv, Nat.reduceLT, Nat.reduceLeDiff, Nat.reduceBEq, ne_eq, not_true_eq_false, not_false_eq_true, reduceCtorEq, if_true, if_false, eq_self, Nat.add_zero, Nat.zero_add, lit, lit_nn, I_nat, I_add, I_mul, I_sub, I_div, inb_t, I_ne, I_nn, nn_I, nn_lt, nn_le, lt_nn, le_nn, I_t, I_f, I_lt_t, I_lt_f, isb_0, isb_1, vz_0, vz_1, nn_nat]
        · simp (disch := omega) only [z, ck1, bd1, bx1, bx2, aS_at, iS_at, upd_at, ↓reduceIte, Nat.reduceEqDiff, Nat.reduceAdd, Nat.reduceMul, Nat.reduceSub, Nat.reduceDiv, Nat.reduceLT, Nat.reduceLeDiff, Nat.reduceBEq, ne_eq, not_true_eq_false, not_false_eq_true, reduceCtorEq, if_true, if_false, eq_self, Nat.add_zero, Nat.zero_add, lit, lit_nn, I_nat, I_add, I_mul, I_sub, I_div, inb_t, I_ne, I_nn, nn_I, nn_lt, nn_le, lt_nn, le_nn, I_t, I_f, I_lt_t, I_lt_f, isb_0, isb_1, vz_0, vz_1, nn_nat]
    · have q : key V k < key V b ↔ nk V (V 0 k) < nk V (V 0 b) := by
        have : ¬ _ := fun z => e (nk_inj hN a1 b1 z)
        unfold key; omega
      simp (disch := omega) only [fX3_isBetterThanHeld, fX3_isBetterThanHeld_J72, name_c hN a1 b1, ck1, bd1, bx1, bx2, aS_at, iS_at, upd_at, ↓reduceIte, Nat.reduceEqDiff, Nat.reduceAdd, Nat.reduceMul, Nat.reduceSub, Nat.reduceDiv, Nat.reduceLT, Nat.reduceLeDiff, Nat.reduceBEq, ne_eq, not_true_eq_false, not_false_eq_true, reduceCtorEq, if_true, if_false, eq_self, Nat.add_zero, Nat.zero_add, lit, lit_nn, I_nat, I_add, I_mul, I_sub, I_div, inb_t, I_ne, I_nn, nn_I, nn_lt, nn_le, lt_nn, le_nn, I_t, I_f, I_lt_t, I_lt_f, isb_0, isb_1, vz_0, vz_1, nn_nat, t1, t2, t5, g1, g2, g4, q]
      by_cases z : nk V (V 0 k) < nk V (V 0 b)
      · simp only [z, if_true, isb_1, ck1]
      · simp only [z, if_false, isb_0, ck1]
def bI (b : Nat) : Int32 := if b = 30 then nn else I b
theorem better_m {V : Nat → Nat → Nat} {mm : St} (hN : TN V (mm 2)) (hT : TC V (mm 20) (mm 21) (mm 22) (mm 3) (mm 4)) (hB : TB V) {s k b : Nat} (hk : k < 30) (hs : s < 6) (tk : V 5 k ≠ 0) (hb : b = 30 ∨ (b < 30 ∧ V 5 b ≠ 0)) : fX6_isBetterBy mm (I s) (I k) (bI b) = some (I (if key V k < hkey V s b then 1 else 0)) := by
  obtain ⟨t1, t2, t3, t4, t5⟩ := (hT k hk).2 tk
  obtain ⟨a1, a2, a3, a4, a5, a6⟩ := hB.1 k hk tk
  have l1 := nk_lt hN (show V 3 k / 5 < 6 by omega)
  have l2 := nk_lt hN a1
  have ns := nk_lt hN hs
  rcases hb with rfl | ⟨hb, tb⟩
  · have ek : hkey V s 30 = skey V s := by unfold hkey; rw [if_pos rfl]
    rw [ek, show bI 30 = nn from rfl]
    by_cases e : V 0 k = s
    · have z : ¬ key V k < skey V s := by unfold key skey; rw [e]; omega
      rw [if_neg z]
      simp (disch := omega) only [fX6_isBetterBy_J92, fX6_isBetterBy_J78, fX6_isBetterBy_J23, fX6_isBetterBy, ck1, bd1, bx1, bx2, aS_at, iS_at, upd_at, ↓reduceIte, Nat.reduceEqDiff, Nat.reduceAdd, Nat.reduceMul, Nat.reduceSub, Nat.reduceDiv, Nat.reduceLT, Nat.reduceLeDiff, Nat.reduceBEq, ne_eq, not_true_eq_false, not_false_eq_true, reduceCtorEq, if_true, if_false, eq_self, Nat.add_zero, Nat.zero_add, lit, lit_nn, I_nat, I_add, I_mul, I_sub, I_div, inb_t, I_ne, I_nn, nn_I, nn_lt, nn_le, lt_nn, le_nn, I_t, I_f, I_lt_t, I_lt_f, isb_0, isb_1, vz_0, vz_1, nn_nat, t1, t2, t5, e]
    · have q : key V k < skey V s ↔ nk V (V 0 k) < nk V s := by
        have : ¬ _ := fun z => e (nk_inj hN a1 hs z)
        unfold key skey; omega
      simp (disch := omega) only [fX6_isBetterBy_J92, fX6_isBetterBy_J78, fX6_isBetterBy_J23, fX6_isBetterBy, name_m hN a1 hs, ck1, bd1, bx1, bx2, aS_at, iS_at, upd_at, ↓reduceIte, Nat.reduceEqDiff, Nat.reduceAdd, Nat.reduceMul, Nat.reduceSub, Nat.reduceDiv, Nat.reduceLT, Nat.reduceLeDiff, Nat.reduceBEq, ne_eq, not_true_eq_false, not_false_eq_true, reduceCtorEq, if_true, if_false, eq_self, Nat.add_zero, Nat.zero_add, lit, lit_nn, I_nat, I_add, I_mul, I_sub, I_div, inb_t, I_ne, I_nn, nn_I, nn_lt, nn_le, lt_nn, le_nn, I_t, I_f, I_lt_t, I_lt_f, isb_0, isb_1, vz_0, vz_1, nn_nat, t1, t2, t5, q]
      by_cases z : nk V (V 0 k) < nk V s
      · simp only [z, if_true, isb_1, ck1]
      · simp only [z, if_false, isb_0, ck1]
  · have ek : hkey V s b = key V b := by unfold hkey; rw [if_neg (by omega)]
    rw [ek, show bI b = I b by unfold bI; rw [if_neg (by omega)]]
    obtain ⟨u1, u2, u3, u4, u5⟩ := (hT b hb).2 tb
    obtain ⟨b1, b2, b3, b4, b5, b6⟩ := hB.1 b hb tb
    have m1 := nk_lt hN (show V 3 b / 5 < 6 by omega)
    have m2 := nk_lt hN b1
    by_cases e : V 0 k = V 0 b
    · by_cases e2 : V 1 k + V 4 k = V 1 b + V 4 b
      · by_cases e3 : V 3 k / 5 = V 3 b / 5
        · have q : key V k < key V b ↔ V 3 k < V 3 b := by unfold key; rw [e, e2, e3]; omega
          simp (disch := omega) only [fX6_isBetterBy_J92, fX6_isBetterBy_J78, fX6_isBetterBy_J23, fX6_isBetterBy, ck1, bd1, bx1, bx2, aS_at, iS_at, upd_at, ↓reduceIte, Nat.reduceEqDiff, Nat.reduceAdd, Nat.reduceMul, Nat.reduceSub, Nat.reduceDiv, Nat.reduceLT, Nat.reduceLeDiff, Nat.reduceBEq, ne_eq, not_true_eq_false, not_false_eq_true, reduceCtorEq, if_true, if_false, eq_self, Nat.add_zero, Nat.zero_add, lit, lit_nn, I_nat, I_add, I_mul, I_sub, I_div, inb_t, I_ne, I_nn, nn_I, nn_lt, nn_le, lt_nn, le_nn, I_t, I_f, I_lt_t, I_lt_f, isb_0, isb_1, vz_0, vz_1, nn_nat, t1, t2, t4, t5, u1, u2, u4, u5, e, e2, e3, q]
          by_cases z : V 3 k < V 3 b
          · simp (disch := omega) only [z, ck1, bd1, bx1, bx2, aS_at, iS_at, upd_at, ↓reduceIte, Nat.reduceEqDiff, Nat.reduceAdd, Nat.reduceMul, Nat.reduceSub, Nat.reduceDiv, Nat.reduceLT, Nat.reduceLeDiff, Nat.reduceBEq, ne_eq, not_true_eq_false, not_false_eq_true, reduceCtorEq, if_true, if_false, eq_self, Nat.add_zero, Nat.zero_add, lit, lit_nn, I_nat, I_add, I_mul, I_sub, I_div, inb_t, I_ne, I_nn, nn_I, nn_lt, nn_le, lt_nn, le_nn, I_t, I_f, I_lt_t, I_lt_f, isb_0, isb_1, vz_0, vz_1, nn_nat]
          · simp (disch := omega) only [z, ck1, bd1, bx1, bx2, aS_at, iS_at, upd_at, ↓reduceIte, Nat.reduceEqDiff, Nat.reduceAdd, Nat.reduceMul, Nat.reduceSub, Nat.reduceDiv, Nat.reduceLT, Nat.reduceLeDiff, Nat.reduceBEq, ne_eq, not_true_eq_false, not_false_eq_true, reduceCtorEq, if_true, if_false, eq_self, Nat.add_zero, Nat.zero_add, lit, lit_nn, I_nat, I_add, I_mul, I_sub, I_div, inb_t, I_ne, I_nn, nn_I, nn_lt, nn_le, lt_nn, le_nn, I_t, I_f, I_lt_t, I_lt_f, isb_0, isb_1, vz_0, vz_1, nn_nat]
        · have q : key V k < key V b ↔ nk V (V 3 k / 5) < nk V (V 3 b / 5) := by
            have : ¬ _ := fun z => e3 (nk_inj hN (show V 3 k / 5 < 6 by omega) (show V 3 b / 5 < 6 by omega) z)
            unfold key; rw [e, e2]; omega
          simp (disch := omega) only [fX6_isBetterBy_J92, fX6_isBetterBy_J78, fX6_isBetterBy_J23, fX6_isBetterBy, name_m hN (show V 3 k / 5 < 6 by omega) (show V 3 b / 5 < 6 by omega), ck1, bd1, bx1, bx2, aS_at, iS_at, upd_at, ↓reduceIte, Nat.reduceEqDiff, Nat.reduceAdd, Nat.reduceMul, Nat.reduceSub, Nat.reduceDiv, Nat.reduceLT, Nat.reduceLeDiff, Nat.reduceBEq, ne_eq, not_true_eq_false, not_false_eq_true, reduceCtorEq, if_true, if_false, eq_self, Nat.add_zero, Nat.zero_add, lit, lit_nn, I_nat, I_add, I_mul, I_sub, I_div, inb_t, I_ne, I_nn, nn_I, nn_lt, nn_le, lt_nn, le_nn, I_t, I_f, I_lt_t, I_lt_f, isb_0, isb_1, vz_0, vz_1, nn_nat, t1, t2, t4, t5, u1, u2, u4, u5, e, e2, q]
          by_cases z : nk V (V 3 k / 5) < nk V (V 3 b / 5)
          · simp only [z, if_true, isb_1, ck1]
          · simp only [z, if_false, isb_0, ck1]
      · have q : key V k < key V b ↔ V 1 k + V 4 k < V 1 b + V 4 b := by unfold key; rw [e]; omega
        simp (disch := omega) only [fX6_isBetterBy_J92, fX6_isBetterBy_J78, fX6_isBetterBy_J23, fX6_isBetterBy, ck1, bd1, bx1, bx2, aS_at, iS_at, upd_at, ↓reduceIte, Nat.reduceEqDiff, Nat.reduceAdd, Nat.reduceMul, Nat.reduceSub, Nat.reduceDiv, Nat.reduceLT, Nat.reduceLeDiff, Nat.reduceBEq, ne_eq, not_true_eq_false, not_false_eq_true, reduceCtorEq, if_true, if_false, eq_self, Nat.add_zero, Nat.zero_add, lit, lit_nn, I_nat, I_add, I_mul, I_sub, I_div, inb_t, I_ne, I_nn, nn_I, nn_lt, nn_le, lt_nn, le_nn, I_t, I_f, I_lt_t, I_lt_f, isb_0, isb_1, vz_0, vz_1, nn_nat, t1, t2, t5, u1, u2, u5, e, q]
        by_cases z : V 1 k + V 4 k < V 1 b + V 4 b
        · simp (disch := omega) only [z, ck1, bd1, bx1, bx2, aS_at, iS_at, upd_at, ↓reduceIte, Nat.reduceEqDiff, Nat.reduceAdd, Nat.reduceMul, Nat.reduceSub, Nat.reduceDiv, Nat.reduceLT, Nat.reduceLeDiff, Nat.reduceBEq, ne_eq, not_true_eq_false, not_false_eq_true, reduceCtorEq, if_true, if_false, eq_self, Nat.add_zero, Nat.zero_add, lit, lit_nn, I_nat, I_add, I_mul, I_sub, I_div, inb_t, I_ne, I_nn, nn_I, nn_lt, nn_le, lt_nn, le_nn, I_t, I_f, I_lt_t, I_lt_f, isb_0, isb_1, vz_0, vz_1, nn_nat]
        · simp (disch := omega) only [z, ck1, bd1, bx1, bx2, aS_at, iS_at, upd_at, ↓reduceIte, Nat.reduceEqDiff, Nat.reduceAdd, Nat.reduceMul, Nat.reduceSub, Nat.reduceDiv, Nat.reduceLT, Nat.reduceLeDiff, Nat.reduceBEq, ne_eq, not_true_eq_false, not_false_eq_true, reduceCtorEq, if_true, if_false, eq_self, Nat.add_zero, Nat.zero_add, lit, lit_nn, I_nat, I_add, I_mul, I_sub, I_div, inb_t, I_ne, I_nn, nn_I, nn_lt, nn_le, lt_nn, le_nn, I_t, I_f, I_lt_t, I_lt_f, isb_0, isb_1, vz_0, vz_1, nn_nat]
    · have q : key V k < key V b ↔ nk V (V 0 k) < nk V (V 0 b) := by
        have : ¬ _ := fun z => e (nk_inj hN a1 b1 z)
        unfold key; omega
      simp (disch := omega) only [fX6_isBetterBy_J92, fX6_isBetterBy_J78, fX6_isBetterBy_J23, fX6_isBetterBy, name_m hN a1 b1, ck1, bd1, bx1, bx2, aS_at, iS_at, upd_at, ↓reduceIte, Nat.reduceEqDiff, Nat.reduceAdd, Nat.reduceMul, Nat.reduceSub, Nat.reduceDiv, Nat.reduceLT, Nat.reduceLeDiff, Nat.reduceBEq, ne_eq, not_true_eq_false, not_false_eq_true, reduceCtorEq, if_true, if_false, eq_self, Nat.add_zero, Nat.zero_add, lit, lit_nn, I_nat, I_add, I_mul, I_sub, I_div, inb_t, I_ne, I_nn, nn_I, nn_lt, nn_le, lt_nn, le_nn, I_t, I_f, I_lt_t, I_lt_f, isb_0, isb_1, vz_0, vz_1, nn_nat, t1, t2, t5, u1, u2, u5, q]
      by_cases z : nk V (V 0 k) < nk V (V 0 b)
      · simp only [z, if_true, isb_1, ck1]
      · simp only [z, if_false, isb_0, ck1]

/-! ===== wire, house ===== -/
theorem cnt_le (f : Nat → Int32) : ∀ n, cnt f n ≤ n := by
  intro n
  induction n with
  | zero => exact Nat.le_refl _
  | succ n ih => unfold cnt; split <;> omega
theorem cnt_hi (f : Nat → Int32) (a : Nat) (x : Int32) : ∀ n, n ≤ a → cnt (upd f a x) n = cnt f n := by
  intro n
  induction n with
  | zero => intro _; rfl
  | succ n ih =>
    intro h
    have hne : ¬ n = a := by omega
    show cnt (upd f a x) n + (if upd f a x n = nn then 0 else 1) = cnt f n + (if f n = nn then 0 else 1)
    rw [ih (by omega), upd_at, if_neg hne]
theorem cnt_upd (f : Nat → Int32) (a : Nat) (x : Int32) : ∀ n, a < n → cnt (upd f a x) n + (if f a = nn then 0 else 1) = cnt f n + (if x = nn then 0 else 1) := by
  intro n
  induction n with
  | zero => intro h; omega
  | succ n ih =>
    intro h
    by_cases e : a = n
    · subst e
      show cnt (upd f a x) a + (if upd f a x a = nn then 0 else 1) + _ = cnt f a + (if f a = nn then 0 else 1) + _
      rw [cnt_hi f a x a (Nat.le_refl _), upd_at, if_pos rfl]
      omega
    · have := ih (by omega)
      show cnt (upd f a x) n + (if upd f a x n = nn then 0 else 1) + _ = cnt f n + (if f n = nn then 0 else 1) + _
      have hne : ¬ n = a := fun h => e h.symm
      rw [upd_at, if_neg hne]
      omega
theorem wire_count (m : St) : fX6_wire_L166 m (I 0) (I 0) = some (I (cnt (m 3) 30 / 2), m) := by
  have hb : ∀ (k n : Nat), k < 30 → n = cnt (m 3) k → ∃ n', n' = cnt (m 3) (k + 1) ∧ ∀ rec : Int32 × Int32 → Option (Int32 × St), fX6_wire_S166 rec m (I n) (I k) = rec (I n', I (k + 1)) := by
    intro k n hk hP
    have hn := cnt_le (m 3) k
    subst hP
    refine ⟨cnt (m 3) (k + 1), rfl, fun rec => ?_⟩
    by_cases e : m 3 k = nn
    · have e2 : cnt (m 3) (k + 1) = cnt (m 3) k := by show cnt (m 3) k + (if m 3 k = nn then 0 else 1) = _; rw [if_pos e]; omega
      simp (disch := omega) only [fX6_wire_S166, ck1, bd1, bx1, bx2, aS_at, iS_at, upd_at, ↓reduceIte, Nat.reduceEqDiff, Nat.reduceAdd, Nat.reduceMul, Nat.reduceSub, Nat.reduceDiv, Nat.reduceLT, Nat.reduceLeDiff, Nat.reduceBEq, ne_eq, not_true_eq_false, not_false_eq_true, reduceCtorEq, if_true, if_false, eq_self, Nat.add_zero, Nat.zero_add, lit, lit_nn, I_nat, I_add, I_mul, I_sub, I_div, inb_t, I_ne, I_nn, nn_I, nn_lt, nn_le, lt_nn, le_nn, I_t, I_f, I_lt_t, I_lt_f, isb_0, isb_1, vz_0, vz_1, nn_nat, e, e2]
    · have e2 : cnt (m 3) (k + 1) = cnt (m 3) k + 1 := by show cnt (m 3) k + (if m 3 k = nn then 0 else 1) = _; rw [if_neg e]
      simp (disch := omega) only [fX6_wire_S166, ck1, bd1, bx1, bx2, aS_at, iS_at, upd_at, ↓reduceIte, Nat.reduceEqDiff, Nat.reduceAdd, Nat.reduceMul, Nat.reduceSub, Nat.reduceDiv, Nat.reduceLT, Nat.reduceLeDiff, Nat.reduceBEq, ne_eq, not_true_eq_false, not_false_eq_true, reduceCtorEq, if_true, if_false, eq_self, Nat.add_zero, Nat.zero_add, lit, lit_nn, I_nat, I_add, I_mul, I_sub, I_div, inb_t, I_ne, I_nn, nn_I, nn_lt, nn_le, lt_nn, le_nn, I_t, I_f, I_lt_t, I_lt_f, isb_0, isb_1, vz_0, vz_1, nn_nat, e, e2]
  have he : ∀ n : Nat, n = cnt (m 3) 30 → ∀ rec : Int32 × Int32 → Option (Int32 × St), fX6_wire_S166 rec m (I n) (I 30) = some (I (n / 2), m) := by
    intro n hP rec
    have hn := cnt_le (m 3) 30
    subst hP
    simp (disch := omega) only [fX6_wire_S166, ck1, bd1, bx1, bx2, aS_at, iS_at, upd_at, ↓reduceIte, Nat.reduceEqDiff, Nat.reduceAdd, Nat.reduceMul, Nat.reduceSub, Nat.reduceDiv, Nat.reduceLT, Nat.reduceLeDiff, Nat.reduceBEq, ne_eq, not_true_eq_false, not_false_eq_true, reduceCtorEq, if_true, if_false, eq_self, Nat.add_zero, Nat.zero_add, lit, lit_nn, I_nat, I_add, I_mul, I_sub, I_div, inb_t, I_ne, I_nn, nn_I, nn_lt, nn_le, lt_nn, le_nn, I_t, I_f, I_lt_t, I_lt_f, isb_0, isb_1, vz_0, vz_1, nn_nat]
  obtain ⟨s', hP, h⟩ := loop_up (step := fun k a => fX6_wire_S166 k m (a.1) (a.2)) (fun k (n : Nat) => (I n, I k)) 30 (fun k n => n = cnt (m 3) k) (fun n => some (I (n / 2), m)) hb he 30 0 0 1000 (by omega) (by omega) rfl
  subst hP
  exact h
theorem begins_eq (m : St) {k : Nat} (hk : k < 30) : fX6_begins m (I k) = some (aS (aS (aS m 12 (I k) (I 0)) 13 (I k) (I 0)) 14 (I k) (I 0)) := by
  simp (disch := omega) only [fX6_begins, ck1, bd1, bx1, bx2, aS_at, iS_at, upd_at, ↓reduceIte, Nat.reduceEqDiff, Nat.reduceAdd, Nat.reduceMul, Nat.reduceSub, Nat.reduceDiv, Nat.reduceLT, Nat.reduceLeDiff, Nat.reduceBEq, ne_eq, not_true_eq_false, not_false_eq_true, reduceCtorEq, if_true, if_false, eq_self, Nat.add_zero, Nat.zero_add, lit, lit_nn, I_nat, I_add, I_mul, I_sub, I_div, inb_t, I_ne, I_nn, nn_I, nn_lt, nn_le, lt_nn, le_nn, I_t, I_f, I_lt_t, I_lt_f, isb_0, isb_1, vz_0, vz_1, nn_nat]
theorem used_cases (m : St) {k : Nat} (hk : k < 30) : (m 3 k = nn ∧ m 5 k = nn ∧ fX6_isUsed m (I k) = some (I 0)) ∨ ((m 3 k ≠ nn ∨ m 5 k ≠ nn) ∧ fX6_isUsed m (I k) = some (I 1)) := by
  by_cases h1 : m 3 k = nn
  · by_cases h2 : m 5 k = nn
    · left; refine ⟨h1, h2, ?_⟩
      simp (disch := omega) only [fX6_isUsed, ck1, bd1, bx1, bx2, aS_at, iS_at, upd_at, ↓reduceIte, Nat.reduceEqDiff, Nat.reduceAdd, Nat.reduceMul, Nat.reduceSub, Nat.reduceDiv, Nat.reduceLT, Nat.reduceLeDiff, Nat.reduceBEq, ne_eq, not_true_eq_false, not_false_eq_true, reduceCtorEq, if_true, if_false, eq_self, Nat.add_zero, Nat.zero_add, lit, lit_nn, I_nat, I_add, I_mul, I_sub, I_div, inb_t, I_ne, I_nn, nn_I, nn_lt, nn_le, lt_nn, le_nn, I_t, I_f, I_lt_t, I_lt_f, isb_0, isb_1, vz_0, vz_1, nn_nat, h1, h2]
    · right; refine ⟨Or.inr h2, ?_⟩
      simp (disch := omega) only [fX6_isUsed, ck1, bd1, bx1, bx2, aS_at, iS_at, upd_at, ↓reduceIte, Nat.reduceEqDiff, Nat.reduceAdd, Nat.reduceMul, Nat.reduceSub, Nat.reduceDiv, Nat.reduceLT, Nat.reduceLeDiff, Nat.reduceBEq, ne_eq, not_true_eq_false, not_false_eq_true, reduceCtorEq, if_true, if_false, eq_self, Nat.add_zero, Nat.zero_add, lit, lit_nn, I_nat, I_add, I_mul, I_sub, I_div, inb_t, I_ne, I_nn, nn_I, nn_lt, nn_le, lt_nn, le_nn, I_t, I_f, I_lt_t, I_lt_f, isb_0, isb_1, vz_0, vz_1, nn_nat, h1, h2]
  · right; refine ⟨Or.inl h1, ?_⟩
    simp (disch := omega) only [fX6_isUsed, ck1, bd1, bx1, bx2, aS_at, iS_at, upd_at, ↓reduceIte, Nat.reduceEqDiff, Nat.reduceAdd, Nat.reduceMul, Nat.reduceSub, Nat.reduceDiv, Nat.reduceLT, Nat.reduceLeDiff, Nat.reduceBEq, ne_eq, not_true_eq_false, not_false_eq_true, reduceCtorEq, if_true, if_false, eq_self, Nat.add_zero, Nat.zero_add, lit, lit_nn, I_nat, I_add, I_mul, I_sub, I_div, inb_t, I_ne, I_nn, nn_I, nn_lt, nn_le, lt_nn, le_nn, I_t, I_f, I_lt_t, I_lt_f, isb_0, isb_1, vz_0, vz_1, nn_nat, h1]
theorem bare_t (w : St) {k : Nat} (hk : k < 30) (h1 : w 0 k = nn) (h2 : w 2 k = nn) : fX4_isBare w (I k) = some (I 1) := by
  simp (disch := omega) only [fX4_isBare, ck1, bd1, bx1, bx2, aS_at, iS_at, upd_at, ↓reduceIte, Nat.reduceEqDiff, Nat.reduceAdd, Nat.reduceMul, Nat.reduceSub, Nat.reduceDiv, Nat.reduceLT, Nat.reduceLeDiff, Nat.reduceBEq, ne_eq, not_true_eq_false, not_false_eq_true, reduceCtorEq, if_true, if_false, eq_self, Nat.add_zero, Nat.zero_add, lit, lit_nn, I_nat, I_add, I_mul, I_sub, I_div, inb_t, I_ne, I_nn, nn_I, nn_lt, nn_le, lt_nn, le_nn, I_t, I_f, I_lt_t, I_lt_f, isb_0, isb_1, vz_0, vz_1, nn_nat, h1, h2]
theorem bare_f (w : St) {k : Nat} (hk : k < 30) (h : w 0 k ≠ nn ∨ w 2 k ≠ nn) : fX4_isBare w (I k) = some (I 0) := by
  by_cases h1 : w 0 k = nn
  · have h2 : w 2 k ≠ nn := by rcases h with h | h; exact absurd h1 h; exact h
    simp (disch := omega) only [fX4_isBare, ck1, bd1, bx1, bx2, aS_at, iS_at, upd_at, ↓reduceIte, Nat.reduceEqDiff, Nat.reduceAdd, Nat.reduceMul, Nat.reduceSub, Nat.reduceDiv, Nat.reduceLT, Nat.reduceLeDiff, Nat.reduceBEq, ne_eq, not_true_eq_false, not_false_eq_true, reduceCtorEq, if_true, if_false, eq_self, Nat.add_zero, Nat.zero_add, lit, lit_nn, I_nat, I_add, I_mul, I_sub, I_div, inb_t, I_ne, I_nn, nn_I, nn_lt, nn_le, lt_nn, le_nn, I_t, I_f, I_lt_t, I_lt_f, isb_0, isb_1, vz_0, vz_1, nn_nat, h1, h2]
  · simp (disch := omega) only [fX4_isBare, ck1, bd1, bx1, bx2, aS_at, iS_at, upd_at, ↓reduceIte, Nat.reduceEqDiff, Nat.reduceAdd, Nat.reduceMul, Nat.reduceSub, Nat.reduceDiv, Nat.reduceLT, Nat.reduceLeDiff, Nat.reduceBEq, ne_eq, not_true_eq_false, not_false_eq_true, reduceCtorEq, if_true, if_false, eq_self, Nat.add_zero, Nat.zero_add, lit, lit_nn, I_nat, I_add, I_mul, I_sub, I_div, inb_t, I_ne, I_nn, nn_I, nn_lt, nn_le, lt_nn, le_nn, I_t, I_f, I_lt_t, I_lt_f, isb_0, isb_1, vz_0, vz_1, nn_nat, h1]
theorem isI2 {x : Int32} (h : isI 2 x) : x = I 0 ∨ x = I 1 := by
  obtain ⟨k, hk, rfl⟩ := h
  rcases (show k = 0 ∨ k = 1 by omega) with rfl | rfl
  · exact Or.inl rfl
  · exact Or.inr rfl
theorem I01 : (I 1 = I 0) = False := I_ne (by omega) (by omega) (by omega)
theorem I10 : (I 0 = I 1) = False := I_ne (by omega) (by omega) (by omega)
theorem sim_wire {N : Nat} {cs cw ct cl cb mm : St} (h : Rel N cs cw ct cl cb mm) (x1 x2 x3 x4 x5 : Int32) :
    (∃ k r m', (k = 1 ∨ k = 2 ∨ k = 3) ∧ fX5_wire cw x1 x2 x3 x4 x5 = some (.inr k) ∧ fX6_wire mm x1 x2 x3 x4 x5 = some (r, m') ∧ m' 40 0 = I k ∧ Rel N cs cw ct cl cb m') ∨
    (∃ r cw' m', fX5_wire cw x1 x2 x3 x4 x5 = some (.inl (r, cw')) ∧ fX6_wire mm x1 x2 x3 x4 x5 = some (r, m') ∧ m' 40 0 = I 0 ∧ Rel N cs cw' ct cl cb m') := by
  have bad : ∀ y0 y1 : Int32, y0 = I 0 → fX6_wire_J22 mm x1 x2 x3 x4 x5 y0 = some (I 0, iS mm 40 (I 1)) := by
    intro y0 _ e
    subst e
    have e2 : ∀ y1, fX6_wire_J45 mm x1 x2 x3 x4 x5 (I 0) y1 = some (I 0, iS mm 40 (I 1)) := by
      intro y1
      simp (disch := omega) only [fX6_wire_J45, fX6_wire_J104, fails_k, ck1, bd1, bx1, bx2, aS_at, iS_at, upd_at, ↓reduceIte, Nat.reduceEqDiff, Nat.reduceAdd, Nat.reduceMul, Nat.reduceSub, Nat.reduceDiv, Nat.reduceLT, Nat.reduceLeDiff, Nat.reduceBEq, ne_eq, not_true_eq_false, not_false_eq_true, reduceCtorEq, if_true, if_false, eq_self, Nat.add_zero, Nat.zero_add, lit, lit_nn, I_nat, I_add, I_mul, I_sub, I_div, inb_t, I_ne, I_nn, nn_I, nn_lt, nn_le, lt_nn, le_nn, I_t, I_f, I_lt_t, I_lt_f, isb_0, isb_1, vz_0, vz_1, nn_nat]
    unfold fX6_wire_J22
    split
    · exact e2 _
    · by_cases hi : inD x5 1 101
      · rw [show fX6_isIn x5 1 100 = some (I 1) from isIn_t (a := 1) (b := 100) (by omega) hi, bd1]
        simp only [lit, I01, ↓reduceIte]
        exact e2 _
      · rw [show fX6_isIn x5 1 100 = some (I 0) from isIn_f (a := 1) (b := 100) (by omega) (by omega) hi, bd1]
        simp only [lit, ↓reduceIte]
        exact e2 _
  rcases port_cases x1 x2 with ⟨a1, b1, ha1, hb1, rfl, rfl⟩ | ⟨hc, hm⟩
  · rcases port_cases x3 x4 with ⟨a2, b2, ha2, hb2, rfl, rfl⟩ | ⟨hc, hm⟩
    · obtain ⟨k, ek⟩ : ∃ k, k = 5 * a1 + b1 := ⟨_, rfl⟩
      have hk : k < 30 := by omega
      have e1 : a1 * 5 + b1 = k := by omega
      have e2 : 5 * a1 + b1 = k := by omega
      obtain ⟨j, ej⟩ : ∃ j, j = 5 * a2 + b2 := ⟨_, rfl⟩
      have hj : j < 30 := by omega
      have e3 : a2 * 5 + b2 = j := by omega
      have e4 : 5 * a2 + b2 = j := by omega
      by_cases ha : a1 = a2
      · subst ha
        refine Or.inl ⟨2, I 0, iS mm 40 (I 2), Or.inr (Or.inl rfl), ?_, ?_, rfl, h.thrown _⟩
        · simp (disch := omega) only [fX5_wire, needPort_t ha1 hb1, needPort_t ha2 hb2, ck1, bd1, bx1, bx2, aS_at, iS_at, upd_at, ↓reduceIte, Nat.reduceEqDiff, Nat.reduceAdd, Nat.reduceMul, Nat.reduceSub, Nat.reduceDiv, Nat.reduceLT, Nat.reduceLeDiff, Nat.reduceBEq, ne_eq, not_true_eq_false, not_false_eq_true, reduceCtorEq, if_true, if_false, eq_self, Nat.add_zero, Nat.zero_add, lit, lit_nn, I_nat, I_add, I_mul, I_sub, I_div, inb_t, I_ne, I_nn, nn_I, nn_lt, nn_le, lt_nn, le_nn, I_t, I_f, I_lt_t, I_lt_f, isb_0, isb_1, vz_0, vz_1, nn_nat]
        · simp (disch := omega) only [fX6_wire_S166, fX6_wire_L166, fX6_wire_J104, fX6_wire_J45, fX6_wire_J44, fX6_wire_J22, fX6_wire_J21, fX6_wire, isPort_t ha1 hb1, isPort_t ha2 hb2, fails_k, ck1, bd1, bx1, bx2, aS_at, iS_at, upd_at, ↓reduceIte, Nat.reduceEqDiff, Nat.reduceAdd, Nat.reduceMul, Nat.reduceSub, Nat.reduceDiv, Nat.reduceLT, Nat.reduceLeDiff, Nat.reduceBEq, ne_eq, not_true_eq_false, not_false_eq_true, reduceCtorEq, if_true, if_false, eq_self, Nat.add_zero, Nat.zero_add, lit, lit_nn, I_nat, I_add, I_mul, I_sub, I_div, inb_t, I_ne, I_nn, nn_I, nn_lt, nn_le, lt_nn, le_nn, I_t, I_f, I_lt_t, I_lt_f, isb_0, isb_1, vz_0, vz_1, nn_nat]
      · by_cases h5 : inD x5 1 101
        · have hw := h.2.2.2.2.2.2.2.2.2.2.1
          rcases used_cases mm hk with ⟨u1, u2, uu⟩ | ⟨u1, uu⟩
          · rcases used_cases mm hj with ⟨v1, v2, vv⟩ | ⟨v1, vv⟩
            · have hkj : k ≠ j := by omega
              have hb1' := bare_t cw hk ((hw k hk).1.trans u1) ((hw k hk).2.2.1.trans u2)
              have hb2' := bare_t cw hj ((hw j hj).1.trans v1) ((hw j hj).2.2.1.trans v2)
              obtain ⟨n, en, ec⟩ := h.2.2.2.2.2.2.2.2.2.2.2.2.1.1
              have ecnt : cnt (upd (upd (mm 3) k (I j)) j (I k)) 30 = 2 * (n + 1) := by
                have q1 := cnt_upd (mm 3) k (I j) 30 hk
                have q2 := cnt_upd (upd (mm 3) k (I j)) j (I k) 30 hj
                have z1 : ¬ I k = nn := by rw [I_nn (by omega)]; exact fun h => h
                have z2 : ¬ I j = nn := by rw [I_nn (by omega)]; exact fun h => h
                rw [upd_at, if_neg (Ne.symm hkj), v1, if_pos rfl, if_neg z1] at q2
                rw [u1, if_pos rfl, if_neg z2] at q1
                omega
              obtain ⟨M1, eM1⟩ : ∃ M1, M1 = aS (aS (aS (aS (iS mm 40 (I 0)) 3 (I k) (I j)) 3 (I j) (I k)) 4 (I k) x5) 4 (I j) x5 := ⟨_, rfl⟩
              obtain ⟨M2, eM2⟩ : ∃ M2, M2 = aS (aS (aS M1 12 (I k) (I 0)) 13 (I k) (I 0)) 14 (I k) (I 0) := ⟨_, rfl⟩
              obtain ⟨M3, eM3⟩ : ∃ M3, M3 = aS (aS (aS M2 12 (I j) (I 0)) 13 (I j) (I 0)) 14 (I j) (I 0) := ⟨_, rfl⟩
              have e33 : M3 3 = upd (upd (mm 3) k (I j)) j (I k) := by
                rw [eM3, eM2, eM1]
                simp (disch := omega) only [ck1, bd1, bx1, bx2, aS_at, iS_at, upd_at, ↓reduceIte, Nat.reduceEqDiff, Nat.reduceAdd, Nat.reduceMul, Nat.reduceSub, Nat.reduceDiv, Nat.reduceLT, Nat.reduceLeDiff, Nat.reduceBEq, ne_eq, not_true_eq_false, not_false_eq_true, reduceCtorEq, if_true, if_false, eq_self, Nat.add_zero, Nat.zero_add, lit, lit_nn, I_nat, I_add, I_mul, I_sub, I_div, inb_t, I_ne, I_nn, nn_I, nn_lt, nn_le, lt_nn, le_nn, I_t, I_f, I_lt_t, I_lt_f, isb_0, isb_1, vz_0, vz_1, nn_nat]
              refine Or.inr ⟨I (n + 1), iS (aS (aS (aS (aS cw 0 (I k) (I j)) 0 (I j) (I k)) 1 (I k) x5) 1 (I j) x5) 6 (I (n + 1)), M3, ?_, ?_, ?_, ?_⟩
              · simp (disch := omega) only [fX5_wire, fX5_spotOf, fX4_putWire, needPort_t ha1 hb1, needPort_t ha2 hb2, needWithin_t (a := 1) (b := 100) (by omega) h5, ck1, bd1, bx1, bx2, aS_at, iS_at, upd_at, ↓reduceIte, Nat.reduceEqDiff, Nat.reduceAdd, Nat.reduceMul, Nat.reduceSub, Nat.reduceDiv, Nat.reduceLT, Nat.reduceLeDiff, Nat.reduceBEq, ne_eq, not_true_eq_false, not_false_eq_true, reduceCtorEq, if_true, if_false, eq_self, Nat.add_zero, Nat.zero_add, lit, lit_nn, I_nat, I_add, I_mul, I_sub, I_div, inb_t, I_ne, I_nn, nn_I, nn_lt, nn_le, lt_nn, le_nn, I_t, I_f, I_lt_t, I_lt_f, isb_0, isb_1, vz_0, vz_1, nn_nat, e1, e3, hb1', hb2', I01, en, ha]
              · have q : fX6_wire_L166 M3 (I 0) (I 0) = some (I (n + 1), M3) := by
                  rw [wire_count, e33, ecnt]
                  congr 3
                  omega
                simp (disch := omega) only [fX6_wire_J104, fX6_wire_J45, fX6_wire_J44, fX6_wire_J22, fX6_wire_J21, fX6_wire, isPort_t ha1 hb1, isPort_t ha2 hb2, isIn_t (a := 1) (b := 100) (by omega) h5, fails_0, begins_eq _ hk, begins_eq _ hj, ck1, bd1, bx1, bx2, aS_at, iS_at, upd_at, ↓reduceIte, Nat.reduceEqDiff, Nat.reduceAdd, Nat.reduceMul, Nat.reduceSub, Nat.reduceDiv, Nat.reduceLT, Nat.reduceLeDiff, Nat.reduceBEq, ne_eq, not_true_eq_false, not_false_eq_true, reduceCtorEq, if_true, if_false, eq_self, Nat.add_zero, Nat.zero_add, lit, lit_nn, I_nat, I_add, I_mul, I_sub, I_div, inb_t, I_ne, I_nn, nn_I, nn_lt, nn_le, lt_nn, le_nn, I_t, I_f, I_lt_t, I_lt_f, isb_0, isb_1, vz_0, vz_1, nn_nat, e2, e4, uu, vv, I01, ha, ← eM1, ← eM2, ← eM3, q]
              · rw [eM3, eM2, eM1]; rfl
              · obtain ⟨r, hr1, hr2, rfl⟩ := h5
                obtain ⟨p1, p2, p3, p4, p5, p6, p7, p8, p9, c1, c2, c3, c4, c5, c6, c7, c8, c9, c10⟩ := h
                subst eM3; subst eM2; subst eM1
                refine ⟨p1, ?_, ?_, p4, p5, p6, p7, ?_, (p9.put _).put _, c1, ?_, c3, ?_, c5, c6, ?_, c8, c9, c10⟩
                · intro i hi
                  simp (disch := omega) only [ck1, bd1, bx1, bx2, aS_at, iS_at, upd_at, ↓reduceIte, Nat.reduceEqDiff, Nat.reduceAdd, Nat.reduceMul, Nat.reduceSub, Nat.reduceDiv, Nat.reduceLT, Nat.reduceLeDiff, Nat.reduceBEq, ne_eq, not_true_eq_false, not_false_eq_true, reduceCtorEq, if_true, if_false, eq_self, Nat.add_zero, Nat.zero_add, lit, lit_nn, I_nat, I_add, I_mul, I_sub, I_div, inb_t, I_ne, I_nn, nn_I, nn_lt, nn_le, lt_nn, le_nn, I_t, I_f, I_lt_t, I_lt_f, isb_0, isb_1, vz_0, vz_1, nn_nat]
                  by_cases i1 : i = j
                  · subst i1
                    right
                    refine ⟨k, r, hk, ?_, ?_, by omega, hr1, by omega, ?_, ?_⟩ <;> simp (disch := omega) only [ck1, bd1, bx1, bx2, aS_at, iS_at, upd_at, ↓reduceIte, Nat.reduceEqDiff, Nat.reduceAdd, Nat.reduceMul, Nat.reduceSub, Nat.reduceDiv, Nat.reduceLT, Nat.reduceLeDiff, Nat.reduceBEq, ne_eq, not_true_eq_false, not_false_eq_true, reduceCtorEq, if_true, if_false, eq_self, Nat.add_zero, Nat.zero_add, lit, lit_nn, I_nat, I_add, I_mul, I_sub, I_div, inb_t, I_ne, I_nn, nn_I, nn_lt, nn_le, lt_nn, le_nn, I_t, I_f, I_lt_t, I_lt_f, isb_0, isb_1, vz_0, vz_1, nn_nat, hkj, Ne.symm hkj]
                  · by_cases i2 : i = k
                    · subst i2
                      right
                      refine ⟨j, r, hj, ?_, ?_, by omega, hr1, by omega, ?_, ?_⟩ <;> simp (disch := omega) only [ck1, bd1, bx1, bx2, aS_at, iS_at, upd_at, ↓reduceIte, Nat.reduceEqDiff, Nat.reduceAdd, Nat.reduceMul, Nat.reduceSub, Nat.reduceDiv, Nat.reduceLT, Nat.reduceLeDiff, Nat.reduceBEq, ne_eq, not_true_eq_false, not_false_eq_true, reduceCtorEq, if_true, if_false, eq_self, Nat.add_zero, Nat.zero_add, lit, lit_nn, I_nat, I_add, I_mul, I_sub, I_div, inb_t, I_ne, I_nn, nn_I, nn_lt, nn_le, lt_nn, le_nn, I_t, I_f, I_lt_t, I_lt_f, isb_0, isb_1, vz_0, vz_1, nn_nat, hkj, Ne.symm hkj]
                    · rcases p2 i hi with q | ⟨j', c, d1, d2, d3, d4, d5, d6, d7, d8⟩
                      · left; simp (disch := omega) only [ck1, bd1, bx1, bx2, aS_at, iS_at, upd_at, ↓reduceIte, Nat.reduceEqDiff, Nat.reduceAdd, Nat.reduceMul, Nat.reduceSub, Nat.reduceDiv, Nat.reduceLT, Nat.reduceLeDiff, Nat.reduceBEq, ne_eq, not_true_eq_false, not_false_eq_true, reduceCtorEq, if_true, if_false, eq_self, Nat.add_zero, Nat.zero_add, lit, lit_nn, I_nat, I_add, I_mul, I_sub, I_div, inb_t, I_ne, I_nn, nn_I, nn_lt, nn_le, lt_nn, le_nn, I_t, I_f, I_lt_t, I_lt_f, isb_0, isb_1, vz_0, vz_1, nn_nat, i1, i2]; exact q
                      · have z1 : j' ≠ k := by rintro rfl; rw [u1] at d3; exact absurd d3 (by rw [nn_I (by omega)]; exact fun h => h)
                        have z2 : j' ≠ j := by rintro rfl; rw [v1] at d3; exact absurd d3 (by rw [nn_I (by omega)]; exact fun h => h)
                        right
                        refine ⟨j', c, d1, ?_, ?_, d4, d5, d6, ?_, ?_⟩ <;> simp (disch := omega) only [ck1, bd1, bx1, bx2, aS_at, iS_at, upd_at, ↓reduceIte, Nat.reduceEqDiff, Nat.reduceAdd, Nat.reduceMul, Nat.reduceSub, Nat.reduceDiv, Nat.reduceLT, Nat.reduceLeDiff, Nat.reduceBEq, ne_eq, not_true_eq_false, not_false_eq_true, reduceCtorEq, if_true, if_false, eq_self, Nat.add_zero, Nat.zero_add, lit, lit_nn, I_nat, I_add, I_mul, I_sub, I_div, inb_t, I_ne, I_nn, nn_I, nn_lt, nn_le, lt_nn, le_nn, I_t, I_f, I_lt_t, I_lt_f, isb_0, isb_1, vz_0, vz_1, nn_nat, i1, i2, z1, z2] <;> assumption
                · refine ⟨fun i hi => ?_, p3.2⟩
                  simp (disch := omega) only [ck1, bd1, bx1, bx2, aS_at, iS_at, upd_at, ↓reduceIte, Nat.reduceEqDiff, Nat.reduceAdd, Nat.reduceMul, Nat.reduceSub, Nat.reduceDiv, Nat.reduceLT, Nat.reduceLeDiff, Nat.reduceBEq, ne_eq, not_true_eq_false, not_false_eq_true, reduceCtorEq, if_true, if_false, eq_self, Nat.add_zero, Nat.zero_add, lit, lit_nn, I_nat, I_add, I_mul, I_sub, I_div, inb_t, I_ne, I_nn, nn_I, nn_lt, nn_le, lt_nn, le_nn, I_t, I_f, I_lt_t, I_lt_f, isb_0, isb_1, vz_0, vz_1, nn_nat]
                  by_cases i1 : i = j
                  · subst i1; exact Or.inl v2
                  · by_cases i2 : i = k
                    · subst i2; exact Or.inl u2
                    · simp (disch := omega) only [ck1, bd1, bx1, bx2, aS_at, iS_at, upd_at, ↓reduceIte, Nat.reduceEqDiff, Nat.reduceAdd, Nat.reduceMul, Nat.reduceSub, Nat.reduceDiv, Nat.reduceLT, Nat.reduceLeDiff, Nat.reduceBEq, ne_eq, not_true_eq_false, not_false_eq_true, reduceCtorEq, if_true, if_false, eq_self, Nat.add_zero, Nat.zero_add, lit, lit_nn, I_nat, I_add, I_mul, I_sub, I_div, inb_t, I_ne, I_nn, nn_I, nn_lt, nn_le, lt_nn, le_nn, I_t, I_f, I_lt_t, I_lt_f, isb_0, isb_1, vz_0, vz_1, nn_nat, i1, i2]
                      exact p3.1 i hi
                · intro i hi
                  have d := p8 i hi
                  simp (disch := omega) only [ck1, bd1, bx1, bx2, aS_at, iS_at, upd_at, ↓reduceIte, Nat.reduceEqDiff, Nat.reduceAdd, Nat.reduceMul, Nat.reduceSub, Nat.reduceDiv, Nat.reduceLT, Nat.reduceLeDiff, Nat.reduceBEq, ne_eq, not_true_eq_false, not_false_eq_true, reduceCtorEq, if_true, if_false, eq_self, Nat.add_zero, Nat.zero_add, lit, lit_nn, I_nat, I_add, I_mul, I_sub, I_div, inb_t, I_ne, I_nn, nn_I, nn_lt, nn_le, lt_nn, le_nn, I_t, I_f, I_lt_t, I_lt_f, isb_0, isb_1, vz_0, vz_1, nn_nat]
                  by_cases i1 : i = j
                  · subst i1
                    simp only [↓reduceIte]
                    exact ⟨d.1, ⟨0, by omega, rfl⟩, ⟨0, by omega, rfl⟩, d.2.2.2.1, d.2.2.2.2.1, fun h => absurd h (by rw [I10]; exact fun h => h), fun _ => trivial, fun h => absurd h (by rw [I10]; exact fun h => h), 0, by omega, rfl, fun _ _ => by omega⟩
                  · by_cases i2 : i = k
                    · subst i2
                      simp only [hkj, ↓reduceIte]
                      exact ⟨d.1, ⟨0, by omega, rfl⟩, ⟨0, by omega, rfl⟩, d.2.2.2.1, d.2.2.2.2.1, fun h => absurd h (by rw [I10]; exact fun h => h), fun _ => trivial, fun h => absurd h (by rw [I10]; exact fun h => h), 0, by omega, rfl, fun _ _ => by omega⟩
                    · simp only [i1, i2, ↓reduceIte]
                      exact d
                · intro i hi
                  obtain ⟨d1, d2, d3, d4⟩ := c2 i hi
                  simp (disch := omega) only [ck1, bd1, bx1, bx2, aS_at, iS_at, upd_at, ↓reduceIte, Nat.reduceEqDiff, Nat.reduceAdd, Nat.reduceMul, Nat.reduceSub, Nat.reduceDiv, Nat.reduceLT, Nat.reduceLeDiff, Nat.reduceBEq, ne_eq, not_true_eq_false, not_false_eq_true, reduceCtorEq, if_true, if_false, eq_self, Nat.add_zero, Nat.zero_add, lit, lit_nn, I_nat, I_add, I_mul, I_sub, I_div, inb_t, I_ne, I_nn, nn_I, nn_lt, nn_le, lt_nn, le_nn, I_t, I_f, I_lt_t, I_lt_f, isb_0, isb_1, vz_0, vz_1, nn_nat, d1, d2]
                  exact ⟨trivial, trivial, d3, d4⟩
                · refine ⟨⟨n + 1, rfl, ?_⟩, c4.2⟩
                  rw [← ecnt]
                  simp (disch := omega) only [ck1, bd1, bx1, bx2, aS_at, iS_at, upd_at, ↓reduceIte, Nat.reduceEqDiff, Nat.reduceAdd, Nat.reduceMul, Nat.reduceSub, Nat.reduceDiv, Nat.reduceLT, Nat.reduceLeDiff, Nat.reduceBEq, ne_eq, not_true_eq_false, not_false_eq_true, reduceCtorEq, if_true, if_false, eq_self, Nat.add_zero, Nat.zero_add, lit, lit_nn, I_nat, I_add, I_mul, I_sub, I_div, inb_t, I_ne, I_nn, nn_I, nn_lt, nn_le, lt_nn, le_nn, I_t, I_f, I_lt_t, I_lt_f, isb_0, isb_1, vz_0, vz_1, nn_nat]
                · intro i hi
                  have d := c7 i hi
                  simp (disch := omega) only [ck1, bd1, bx1, bx2, aS_at, iS_at, upd_at, ↓reduceIte, Nat.reduceEqDiff, Nat.reduceAdd, Nat.reduceMul, Nat.reduceSub, Nat.reduceDiv, Nat.reduceLT, Nat.reduceLeDiff, Nat.reduceBEq, ne_eq, not_true_eq_false, not_false_eq_true, reduceCtorEq, if_true, if_false, eq_self, Nat.add_zero, Nat.zero_add, lit, lit_nn, I_nat, I_add, I_mul, I_sub, I_div, inb_t, I_ne, I_nn, nn_I, nn_lt, nn_le, lt_nn, le_nn, I_t, I_f, I_lt_t, I_lt_f, isb_0, isb_1, vz_0, vz_1, nn_nat]
                  by_cases i1 : i = j
                  · subst i1
                    have o := isI2 (p8 i hi).2.1
                    have o0 : mm 12 i = I 0 := by
                      rcases o with o | o
                      · exact o
                      · exact absurd ((p8 i hi).2.2.2.2.2.1 o).2 (by rw [v1, v2]; simp)
                    have r0 := (p8 i hi).2.2.2.2.2.2.1 v1
                    have t0 := d.2.2.2.2.2.1 v1
                    simp only [↓reduceIte]
                    exact ⟨d.1.trans o0, d.2.1.trans r0, d.2.2.1, d.2.2.2.1, d.2.2.2.2.1, fun _ => t0, fun h => absurd h (by rw [I10]; exact fun h => h), fun _ _ => t0⟩
                  · by_cases i2 : i = k
                    · subst i2
                      have o := isI2 (p8 i hi).2.1
                      have o0 : mm 12 i = I 0 := by
                        rcases o with o | o
                        · exact o
                        · exact absurd ((p8 i hi).2.2.2.2.2.1 o).2 (by rw [u1, u2]; simp)
                      have r0 := (p8 i hi).2.2.2.2.2.2.1 u1
                      have t0 := d.2.2.2.2.2.1 u1
                      simp only [hkj, ↓reduceIte]
                      exact ⟨d.1.trans o0, d.2.1.trans r0, d.2.2.1, d.2.2.2.1, d.2.2.2.2.1, fun _ => t0, fun h => absurd h (by rw [I10]; exact fun h => h), fun _ _ => t0⟩
                    · simp only [i1, i2, ↓reduceIte]
                      exact d
            · refine Or.inl ⟨3, I 0, iS mm 40 (I 3), Or.inr (Or.inr rfl), ?_, ?_, rfl, h.thrown _⟩
              · have hb1' := bare_t cw hk ((hw k hk).1.trans u1) ((hw k hk).2.2.1.trans u2)
                have hb2' := bare_f cw hj (by rw [(hw j hj).1, (hw j hj).2.2.1]; exact v1)
                simp (disch := omega) only [fX5_wire, fX5_spotOf, needPort_t ha1 hb1, needPort_t ha2 hb2, needWithin_t (a := 1) (b := 100) (by omega) h5, ck1, bd1, bx1, bx2, aS_at, iS_at, upd_at, ↓reduceIte, Nat.reduceEqDiff, Nat.reduceAdd, Nat.reduceMul, Nat.reduceSub, Nat.reduceDiv, Nat.reduceLT, Nat.reduceLeDiff, Nat.reduceBEq, ne_eq, not_true_eq_false, not_false_eq_true, reduceCtorEq, if_true, if_false, eq_self, Nat.add_zero, Nat.zero_add, lit, lit_nn, I_nat, I_add, I_mul, I_sub, I_div, inb_t, I_ne, I_nn, nn_I, nn_lt, nn_le, lt_nn, le_nn, I_t, I_f, I_lt_t, I_lt_f, isb_0, isb_1, vz_0, vz_1, nn_nat, e1, e3, hb1', hb2', I01, ha]
              · simp (disch := omega) only [fX6_wire_S166, fX6_wire_L166, fX6_wire_J104, fX6_wire_J45, fX6_wire_J44, fX6_wire_J22, fX6_wire_J21, fX6_wire, isPort_t ha1 hb1, isPort_t ha2 hb2, isIn_t (a := 1) (b := 100) (by omega) h5, fails_k, ck1, bd1, bx1, bx2, aS_at, iS_at, upd_at, ↓reduceIte, Nat.reduceEqDiff, Nat.reduceAdd, Nat.reduceMul, Nat.reduceSub, Nat.reduceDiv, Nat.reduceLT, Nat.reduceLeDiff, Nat.reduceBEq, ne_eq, not_true_eq_false, not_false_eq_true, reduceCtorEq, if_true, if_false, eq_self, Nat.add_zero, Nat.zero_add, lit, lit_nn, I_nat, I_add, I_mul, I_sub, I_div, inb_t, I_ne, I_nn, nn_I, nn_lt, nn_le, lt_nn, le_nn, I_t, I_f, I_lt_t, I_lt_f, isb_0, isb_1, vz_0, vz_1, nn_nat, e2, e4, uu, vv, I01, ha]
          · refine Or.inl ⟨3, I 0, iS mm 40 (I 3), Or.inr (Or.inr rfl), ?_, ?_, rfl, h.thrown _⟩
            · have hb1' := bare_f cw hk (by rw [(hw k hk).1, (hw k hk).2.2.1]; exact u1)
              simp (disch := omega) only [fX5_wire, fX5_spotOf, needPort_t ha1 hb1, needPort_t ha2 hb2, needWithin_t (a := 1) (b := 100) (by omega) h5, ck1, bd1, bx1, bx2, aS_at, iS_at, upd_at, ↓reduceIte, Nat.reduceEqDiff, Nat.reduceAdd, Nat.reduceMul, Nat.reduceSub, Nat.reduceDiv, Nat.reduceLT, Nat.reduceLeDiff, Nat.reduceBEq, ne_eq, not_true_eq_false, not_false_eq_true, reduceCtorEq, if_true, if_false, eq_self, Nat.add_zero, Nat.zero_add, lit, lit_nn, I_nat, I_add, I_mul, I_sub, I_div, inb_t, I_ne, I_nn, nn_I, nn_lt, nn_le, lt_nn, le_nn, I_t, I_f, I_lt_t, I_lt_f, isb_0, isb_1, vz_0, vz_1, nn_nat, e1, e3, hb1', I01, ha]
            · simp (disch := omega) only [fX6_wire_S166, fX6_wire_L166, fX6_wire_J104, fX6_wire_J45, fX6_wire_J44, fX6_wire_J22, fX6_wire_J21, fX6_wire, isPort_t ha1 hb1, isPort_t ha2 hb2, isIn_t (a := 1) (b := 100) (by omega) h5, fails_k, ck1, bd1, bx1, bx2, aS_at, iS_at, upd_at, ↓reduceIte, Nat.reduceEqDiff, Nat.reduceAdd, Nat.reduceMul, Nat.reduceSub, Nat.reduceDiv, Nat.reduceLT, Nat.reduceLeDiff, Nat.reduceBEq, ne_eq, not_true_eq_false, not_false_eq_true, reduceCtorEq, if_true, if_false, eq_self, Nat.add_zero, Nat.zero_add, lit, lit_nn, I_nat, I_add, I_mul, I_sub, I_div, inb_t, I_ne, I_nn, nn_I, nn_lt, nn_le, lt_nn, le_nn, I_t, I_f, I_lt_t, I_lt_f, isb_0, isb_1, vz_0, vz_1, nn_nat, e2, e4, uu, I01, ha]
        · refine Or.inl ⟨2, I 0, iS mm 40 (I 2), Or.inr (Or.inl rfl), ?_, ?_, rfl, h.thrown _⟩
          · simp (disch := omega) only [fX5_wire, needPort_t ha1 hb1, needPort_t ha2 hb2, needWithin_f (a := 1) (b := 100) (by omega) (by omega) h5, ck1, bd1, bx1, bx2, aS_at, iS_at, upd_at, ↓reduceIte, Nat.reduceEqDiff, Nat.reduceAdd, Nat.reduceMul, Nat.reduceSub, Nat.reduceDiv, Nat.reduceLT, Nat.reduceLeDiff, Nat.reduceBEq, ne_eq, not_true_eq_false, not_false_eq_true, reduceCtorEq, if_true, if_false, eq_self, Nat.add_zero, Nat.zero_add, lit, lit_nn, I_nat, I_add, I_mul, I_sub, I_div, inb_t, I_ne, I_nn, nn_I, nn_lt, nn_le, lt_nn, le_nn, I_t, I_f, I_lt_t, I_lt_f, isb_0, isb_1, vz_0, vz_1, nn_nat, ha]
          · simp (disch := omega) only [fX6_wire_S166, fX6_wire_L166, fX6_wire_J104, fX6_wire_J45, fX6_wire_J44, fX6_wire_J22, fX6_wire_J21, fX6_wire, isPort_t ha1 hb1, isPort_t ha2 hb2, isIn_f (a := 1) (b := 100) (by omega) (by omega) h5, fails_k, ck1, bd1, bx1, bx2, aS_at, iS_at, upd_at, ↓reduceIte, Nat.reduceEqDiff, Nat.reduceAdd, Nat.reduceMul, Nat.reduceSub, Nat.reduceDiv, Nat.reduceLT, Nat.reduceLeDiff, Nat.reduceBEq, ne_eq, not_true_eq_false, not_false_eq_true, reduceCtorEq, if_true, if_false, eq_self, Nat.add_zero, Nat.zero_add, lit, lit_nn, I_nat, I_add, I_mul, I_sub, I_div, inb_t, I_ne, I_nn, nn_I, nn_lt, nn_le, lt_nn, le_nn, I_t, I_f, I_lt_t, I_lt_f, isb_0, isb_1, vz_0, vz_1, nn_nat, ha]
    · refine Or.inl ⟨1, I 0, iS mm 40 (I 1), Or.inl rfl, ?_, ?_, rfl, h.thrown _⟩
      · simp (disch := omega) only [fX5_wire, needPort_t ha1 hb1, hc, ck1, bd1, bx1, bx2, aS_at, iS_at, upd_at, ↓reduceIte, Nat.reduceEqDiff, Nat.reduceAdd, Nat.reduceMul, Nat.reduceSub, Nat.reduceDiv, Nat.reduceLT, Nat.reduceLeDiff, Nat.reduceBEq, ne_eq, not_true_eq_false, not_false_eq_true, reduceCtorEq, if_true, if_false, eq_self, Nat.add_zero, Nat.zero_add, lit, lit_nn, I_nat, I_add, I_mul, I_sub, I_div, inb_t, I_ne, I_nn, nn_I, nn_lt, nn_le, lt_nn, le_nn, I_t, I_f, I_lt_t, I_lt_f, isb_0, isb_1, vz_0, vz_1, nn_nat]
      · have := bad (I 0) (I 0) rfl
        simp (disch := omega) only [fX6_wire, fX6_wire_J21, isPort_t ha1 hb1, hm, ck1, bd1, bx1, bx2, aS_at, iS_at, upd_at, ↓reduceIte, Nat.reduceEqDiff, Nat.reduceAdd, Nat.reduceMul, Nat.reduceSub, Nat.reduceDiv, Nat.reduceLT, Nat.reduceLeDiff, Nat.reduceBEq, ne_eq, not_true_eq_false, not_false_eq_true, reduceCtorEq, if_true, if_false, eq_self, Nat.add_zero, Nat.zero_add, lit, lit_nn, I_nat, I_add, I_mul, I_sub, I_div, inb_t, I_ne, I_nn, nn_I, nn_lt, nn_le, lt_nn, le_nn, I_t, I_f, I_lt_t, I_lt_f, isb_0, isb_1, vz_0, vz_1, nn_nat, this]
  · refine Or.inl ⟨1, I 0, iS mm 40 (I 1), Or.inl rfl, ?_, ?_, rfl, h.thrown _⟩
    · simp (disch := omega) only [fX5_wire, hc, ck1, bd1, bx1, bx2, aS_at, iS_at, upd_at, ↓reduceIte, Nat.reduceEqDiff, Nat.reduceAdd, Nat.reduceMul, Nat.reduceSub, Nat.reduceDiv, Nat.reduceLT, Nat.reduceLeDiff, Nat.reduceBEq, ne_eq, not_true_eq_false, not_false_eq_true, reduceCtorEq, if_true, if_false, eq_self, Nat.add_zero, Nat.zero_add, lit, lit_nn, I_nat, I_add, I_mul, I_sub, I_div, inb_t, I_ne, I_nn, nn_I, nn_lt, nn_le, lt_nn, le_nn, I_t, I_f, I_lt_t, I_lt_f, isb_0, isb_1, vz_0, vz_1, nn_nat]
    · have := bad (I 0) (I 0) rfl
      simp (disch := omega) only [fX6_wire, fX6_wire_J21, hm, ck1, bd1, bx1, bx2, aS_at, iS_at, upd_at, ↓reduceIte, Nat.reduceEqDiff, Nat.reduceAdd, Nat.reduceMul, Nat.reduceSub, Nat.reduceDiv, Nat.reduceLT, Nat.reduceLeDiff, Nat.reduceBEq, ne_eq, not_true_eq_false, not_false_eq_true, reduceCtorEq, if_true, if_false, eq_self, Nat.add_zero, Nat.zero_add, lit, lit_nn, I_nat, I_add, I_mul, I_sub, I_div, inb_t, I_ne, I_nn, nn_I, nn_lt, nn_le, lt_nn, le_nn, I_t, I_f, I_lt_t, I_lt_f, isb_0, isb_1, vz_0, vz_1, nn_nat, this]

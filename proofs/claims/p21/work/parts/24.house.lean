theorem house_loop (m : St) (x3 x4 x5 : Int32) : ∃ (i : Int32) (n : Nat), fX6_house_L38 m x3 x4 x5 (I 0) (I 1) (I 0) = fX6_house_J95 m x3 x4 x5 i (I n) ∧ n = 1 + cnt (m 5) 30 ∧ ((i = I 1 ∧ ∃ j, j < 30 ∧ m 5 j = x3) ∨ (i = I 0 ∧ ∀ j, j < 30 → m 5 j ≠ x3)) := by
  obtain ⟨P, eP⟩ : ∃ P : Nat → Int32 × Nat → Prop, P = fun k s => s.2 = 1 + cnt (m 5) k ∧ ((s.1 = I 1 ∧ ∃ j, j < k ∧ m 5 j = x3) ∨ (s.1 = I 0 ∧ ∀ j, j < k → m 5 j ≠ x3)) := ⟨_, rfl⟩
  have hb : ∀ (k : Nat) (s : Int32 × Nat), k < 30 → P k s → ∃ s', P (k + 1) s' ∧ ∀ rec : Int32 × Int32 × Int32 → Option (Int32 × St), fX6_house_S38 rec m x3 x4 x5 s.1 (I s.2) (I k) = rec (s'.1, I s'.2, I (k + 1)) := by
    intro k s hk hP
    subst eP
    obtain ⟨i, n⟩ := s
    obtain ⟨e1, e2⟩ := hP
    dsimp only at e1 e2 ⊢
    subst e1
    have hn := cnt_le (m 5) k
    have key : ∃ i' : Int32, ((i' = I 1 ∧ ∃ j, j < k + 1 ∧ m 5 j = x3) ∨ (i' = I 0 ∧ ∀ j, j < k + 1 → m 5 j ≠ x3)) ∧ ∀ rec : Int32 × Int32 × Int32 → Option (Int32 × St), fX6_house_S38 rec m x3 x4 x5 i (I (1 + cnt (m 5) k)) (I k) = fX6_house_J66 rec m x3 x4 x5 (I (1 + cnt (m 5) k)) (I k) i' := by
      rcases e2 with ⟨rfl, j, hj, e⟩ | ⟨rfl, e⟩
      · refine ⟨I 1, Or.inl ⟨rfl, j, by omega, e⟩, fun rec => ?_⟩
        simp (disch := omega) only [fX6_house_S38, ck1, bd1, bx1, bx2, aS_at, iS_at, upd_at, ↓reduceIte, Nat.reduceEqDiff, Nat.reduceAdd, Nat.reduceMul, Nat.reduceSub, Nat.reduceDiv, Nat.reduceLT, Nat.reduceLeDiff, Nat.reduceBEq, ne_eq, not_true_eq_false, not_false_eq_true, reduceCtorEq, if_true, if_false, eq_self, Nat.add_zero, Nat.zero_add, lit, lit_nn, I_nat, I_add, I_mul, I_sub, I_div, inb_t, I_ne, I_nn, nn_I, nn_lt, nn_le, lt_nn, le_nn, I_t, I_f, I_lt_t, I_lt_f, isb_0, isb_1, vz_0, vz_1, nn_nat, I01]
      · by_cases e3 : m 5 k = x3
        · refine ⟨I 1, Or.inl ⟨rfl, k, by omega, e3⟩, fun rec => ?_⟩
          simp (disch := omega) only [fX6_house_S38, ck1, bd1, bx1, bx2, aS_at, iS_at, upd_at, ↓reduceIte, Nat.reduceEqDiff, Nat.reduceAdd, Nat.reduceMul, Nat.reduceSub, Nat.reduceDiv, Nat.reduceLT, Nat.reduceLeDiff, Nat.reduceBEq, ne_eq, not_true_eq_false, not_false_eq_true, reduceCtorEq, if_true, if_false, eq_self, Nat.add_zero, Nat.zero_add, lit, lit_nn, I_nat, I_add, I_mul, I_sub, I_div, inb_t, I_ne, I_nn, nn_I, nn_lt, nn_le, lt_nn, le_nn, I_t, I_f, I_lt_t, I_lt_f, isb_0, isb_1, vz_0, vz_1, nn_nat, e3]
        · refine ⟨I 0, Or.inr ⟨rfl, fun j hj => ?_⟩, fun rec => ?_⟩
          · by_cases q : j = k
            · subst q; exact e3
            · exact e j (by omega)
          · simp (disch := omega) only [fX6_house_S38, ck1, bd1, bx1, bx2, aS_at, iS_at, upd_at, ↓reduceIte, Nat.reduceEqDiff, Nat.reduceAdd, Nat.reduceMul, Nat.reduceSub, Nat.reduceDiv, Nat.reduceLT, Nat.reduceLeDiff, Nat.reduceBEq, ne_eq, not_true_eq_false, not_false_eq_true, reduceCtorEq, if_true, if_false, eq_self, Nat.add_zero, Nat.zero_add, lit, lit_nn, I_nat, I_add, I_mul, I_sub, I_div, inb_t, I_ne, I_nn, nn_I, nn_lt, nn_le, lt_nn, le_nn, I_t, I_f, I_lt_t, I_lt_f, isb_0, isb_1, vz_0, vz_1, nn_nat, e3]
    obtain ⟨i', h1, h2⟩ := key
    refine ⟨(i', 1 + cnt (m 5) (k + 1)), ⟨rfl, h1⟩, fun rec => ?_⟩
    rw [h2]
    by_cases e : m 5 k = nn
    · have e2 : cnt (m 5) (k + 1) = cnt (m 5) k := by show cnt (m 5) k + (if m 5 k = nn then 0 else 1) = _; rw [if_pos e]; omega
      simp (disch := omega) only [fX6_house_J66, ck1, bd1, bx1, bx2, aS_at, iS_at, upd_at, ↓reduceIte, Nat.reduceEqDiff, Nat.reduceAdd, Nat.reduceMul, Nat.reduceSub, Nat.reduceDiv, Nat.reduceLT, Nat.reduceLeDiff, Nat.reduceBEq, ne_eq, not_true_eq_false, not_false_eq_true, reduceCtorEq, if_true, if_false, eq_self, Nat.add_zero, Nat.zero_add, lit, lit_nn, I_nat, I_add, I_mul, I_sub, I_div, inb_t, I_ne, I_nn, nn_I, nn_lt, nn_le, lt_nn, le_nn, I_t, I_f, I_lt_t, I_lt_f, isb_0, isb_1, vz_0, vz_1, nn_nat, e, e2]
    · have e2 : cnt (m 5) (k + 1) = cnt (m 5) k + 1 := by show cnt (m 5) k + (if m 5 k = nn then 0 else 1) = _; rw [if_neg e]
      have e3 : 1 + cnt (m 5) k + 1 = 1 + (cnt (m 5) k + 1) := by omega
      simp (disch := omega) only [fX6_house_J66, ck1, bd1, bx1, bx2, aS_at, iS_at, upd_at, ↓reduceIte, Nat.reduceEqDiff, Nat.reduceAdd, Nat.reduceMul, Nat.reduceSub, Nat.reduceDiv, Nat.reduceLT, Nat.reduceLeDiff, Nat.reduceBEq, ne_eq, not_true_eq_false, not_false_eq_true, reduceCtorEq, if_true, if_false, eq_self, Nat.add_zero, Nat.zero_add, lit, lit_nn, I_nat, I_add, I_mul, I_sub, I_div, inb_t, I_ne, I_nn, nn_I, nn_lt, nn_le, lt_nn, le_nn, I_t, I_f, I_lt_t, I_lt_f, isb_0, isb_1, vz_0, vz_1, nn_nat, e, e2, e3]
  have he : ∀ s : Int32 × Nat, P 30 s → ∀ rec : Int32 × Int32 × Int32 → Option (Int32 × St), fX6_house_S38 rec m x3 x4 x5 s.1 (I s.2) (I 30) = fX6_house_J95 m x3 x4 x5 s.1 (I s.2) := by
    intro s _ rec
    simp (disch := omega) only [fX6_house_S38, ck1, bd1, bx1, bx2, aS_at, iS_at, upd_at, ↓reduceIte, Nat.reduceEqDiff, Nat.reduceAdd, Nat.reduceMul, Nat.reduceSub, Nat.reduceDiv, Nat.reduceLT, Nat.reduceLeDiff, Nat.reduceBEq, ne_eq, not_true_eq_false, not_false_eq_true, reduceCtorEq, if_true, if_false, eq_self, Nat.add_zero, Nat.zero_add, lit, lit_nn, I_nat, I_add, I_mul, I_sub, I_div, inb_t, I_ne, I_nn, nn_I, nn_lt, nn_le, lt_nn, le_nn, I_t, I_f, I_lt_t, I_lt_f, isb_0, isb_1, vz_0, vz_1, nn_nat]
  obtain ⟨s', hP, h⟩ := loop_up (step := fun k a => fX6_house_S38 k m x3 x4 x5 (a.1) (a.2.1) (a.2.2)) (fun k (s : Int32 × Nat) => (s.1, I s.2, I k)) 30 P (fun s => fX6_house_J95 m x3 x4 x5 s.1 (I s.2)) hb he 30 0 (I 0, 1) 1000 (by omega) (by omega) (by rw [eP]; exact ⟨rfl, Or.inr ⟨rfl, fun j hj => by omega⟩⟩)
  subst eP
  exact ⟨s'.1, s'.2, h, hP.1, hP.2⟩
theorem isShut_t (t : St) {k : Nat} (hk : k < 30) (h : t 5 k = I 0) : fX3_isShut t (I k) = some (I 0) := by
  simp (disch := omega) only [fX3_isShut, ck1, bd1, bx1, bx2, aS_at, iS_at, upd_at, ↓reduceIte, Nat.reduceEqDiff, Nat.reduceAdd, Nat.reduceMul, Nat.reduceSub, Nat.reduceDiv, Nat.reduceLT, Nat.reduceLeDiff, Nat.reduceBEq, ne_eq, not_true_eq_false, not_false_eq_true, reduceCtorEq, if_true, if_false, eq_self, Nat.add_zero, Nat.zero_add, lit, lit_nn, I_nat, I_add, I_mul, I_sub, I_div, inb_t, I_ne, I_nn, nn_I, nn_lt, nn_le, lt_nn, le_nn, I_t, I_f, I_lt_t, I_lt_f, isb_0, isb_1, vz_0, vz_1, nn_nat, h]
theorem isShut_f (t : St) {k : Nat} (hk : k < 30) (h : t 5 k ≠ I 0) : fX3_isShut t (I k) = some (I 1) := by
  simp (disch := omega) only [fX3_isShut, ck1, bd1, bx1, bx2, aS_at, iS_at, upd_at, ↓reduceIte, Nat.reduceEqDiff, Nat.reduceAdd, Nat.reduceMul, Nat.reduceSub, Nat.reduceDiv, Nat.reduceLT, Nat.reduceLeDiff, Nat.reduceBEq, ne_eq, not_true_eq_false, not_false_eq_true, reduceCtorEq, if_true, if_false, eq_self, Nat.add_zero, Nat.zero_add, lit, lit_nn, I_nat, I_add, I_mul, I_sub, I_div, inb_t, I_ne, I_nn, nn_I, nn_lt, nn_le, lt_nn, le_nn, I_t, I_f, I_lt_t, I_lt_f, isb_0, isb_1, vz_0, vz_1, nn_nat, h]
theorem openFor (t w : St) {k : Nat} (hk : k < 30) : fX3_openForHouse t w (I k) = some (aS t 6 (I k) (if t 5 k = I 0 ∧ w 2 k ≠ nn then I 1 else I 0)) := by
  by_cases h1 : t 5 k = I 0
  · by_cases h2 : w 2 k = nn
    · simp (disch := omega) only [fX3_openForHouse_J31, fX3_openForHouse_J30, fX3_openForHouse, isShut_t t hk h1, ck1, bd1, bx1, bx2, aS_at, iS_at, upd_at, ↓reduceIte, Nat.reduceEqDiff, Nat.reduceAdd, Nat.reduceMul, Nat.reduceSub, Nat.reduceDiv, Nat.reduceLT, Nat.reduceLeDiff, Nat.reduceBEq, ne_eq, not_true_eq_false, not_false_eq_true, reduceCtorEq, if_true, if_false, eq_self, Nat.add_zero, Nat.zero_add, lit, lit_nn, I_nat, I_add, I_mul, I_sub, I_div, inb_t, I_ne, I_nn, nn_I, nn_lt, nn_le, lt_nn, le_nn, I_t, I_f, I_lt_t, I_lt_f, isb_0, isb_1, vz_0, vz_1, nn_nat, h1, h2, and_false]
    · simp (disch := omega) only [fX3_openForHouse_J31, fX3_openForHouse_J30, fX3_openForHouse, isShut_t t hk h1, ck1, bd1, bx1, bx2, aS_at, iS_at, upd_at, ↓reduceIte, Nat.reduceEqDiff, Nat.reduceAdd, Nat.reduceMul, Nat.reduceSub, Nat.reduceDiv, Nat.reduceLT, Nat.reduceLeDiff, Nat.reduceBEq, ne_eq, not_true_eq_false, not_false_eq_true, reduceCtorEq, if_true, if_false, eq_self, Nat.add_zero, Nat.zero_add, lit, lit_nn, I_nat, I_add, I_mul, I_sub, I_div, inb_t, I_ne, I_nn, nn_I, nn_lt, nn_le, lt_nn, le_nn, I_t, I_f, I_lt_t, I_lt_f, isb_0, isb_1, vz_0, vz_1, nn_nat, h1, h2, and_true, I01]
  · simp (disch := omega) only [fX3_openForHouse_J31, fX3_openForHouse_J30, fX3_openForHouse, isShut_f t hk h1, ck1, bd1, bx1, bx2, aS_at, iS_at, upd_at, ↓reduceIte, Nat.reduceEqDiff, Nat.reduceAdd, Nat.reduceMul, Nat.reduceSub, Nat.reduceDiv, Nat.reduceLT, Nat.reduceLeDiff, Nat.reduceBEq, ne_eq, not_true_eq_false, not_false_eq_true, reduceCtorEq, if_true, if_false, eq_self, Nat.add_zero, Nat.zero_add, lit, lit_nn, I_nat, I_add, I_mul, I_sub, I_div, inb_t, I_ne, I_nn, nn_I, nn_lt, nn_le, lt_nn, le_nn, I_t, I_f, I_lt_t, I_lt_f, isb_0, isb_1, vz_0, vz_1, nn_nat, h1, false_and, I01]
theorem sim_house {N : Nat} {cs cw ct cl cb mm : St} (h : Rel N cs cw ct cl cb mm) (x1 x2 x3 : Int32) :
    (∃ k r m', ((k = 1 ∧ m' 40 0 = I 1) ∨ (k = 3 ∧ m' 40 0 = I 2)) ∧ fX5_house cw ct x1 x2 x3 = some (.inr k) ∧ fX6_house mm x1 x2 x3 = some (r, m') ∧ Rel N cs cw ct cl cb m') ∨
    (∃ r cw' ct' m', fX5_house cw ct x1 x2 x3 = some (.inl (r, cw', ct')) ∧ fX6_house mm x1 x2 x3 = some (r, m') ∧ m' 40 0 = I 0 ∧ Rel N cs cw' ct' cl cb m') := by
  have bad : fX6_house_J19 mm x1 x2 x3 = some (I 0, iS mm 40 (I 1)) := by
    obtain ⟨i, n, e1, e2, e3⟩ := house_loop mm x3 (I 0) ((I 5 * x1) + x2)
    simp (disch := omega) only [fX6_house_J19, fX6_house_J20, lit]
    rw [e1]
    simp (disch := omega) only [fX6_house_J95, fX6_house_J124, fails_k, ck1, bd1, bx1, bx2, aS_at, iS_at, upd_at, ↓reduceIte, Nat.reduceEqDiff, Nat.reduceAdd, Nat.reduceMul, Nat.reduceSub, Nat.reduceDiv, Nat.reduceLT, Nat.reduceLeDiff, Nat.reduceBEq, ne_eq, not_true_eq_false, not_false_eq_true, reduceCtorEq, if_true, if_false, eq_self, Nat.add_zero, Nat.zero_add, lit, lit_nn, I_nat, I_add, I_mul, I_sub, I_div, inb_t, I_ne, I_nn, nn_I, nn_lt, nn_le, lt_nn, le_nn, I_t, I_f, I_lt_t, I_lt_f, isb_0, isb_1, vz_0, vz_1, nn_nat, I01]
  rcases port_cases x1 x2 with ⟨a, b, ha, hb, rfl, rfl⟩ | ⟨hc, hm⟩
  · by_cases h3 : inD x3 0 10
    · obtain ⟨g, -, hg, rfl⟩ := h3
      obtain ⟨k, ek⟩ : ∃ k, k = 5 * a + b := ⟨_, rfl⟩
      have hk : k < 30 := by omega
      have e1 : a * 5 + b = k := by omega
      have e2 : 5 * a + b = k := by omega
      obtain ⟨i, n, q1, q2, q3⟩ := house_loop mm (I g) (I 1) (I k)
      have hw := h.2.2.2.2.2.2.2.2.2.2.1
      have hsp := h.2.2.2.2.2.2.2.2.2.2.2.1 g hg
      have hcn := h.2.2.2.2.2.2.2.2.2.2.2.2.1.2
      rcases used_cases mm hk with ⟨u1, u2, uu⟩ | ⟨u1, uu⟩
      · have hbare := bare_t cw hk ((hw k hk).1.trans u1) ((hw k hk).2.2.1.trans u2)
        rcases hsp with ⟨s1, s2⟩ | ⟨j, hj, s1, s2⟩
        · have hi : i = I 0 := by
            rcases q3 with ⟨-, j, hj, e⟩ | ⟨e, -⟩
            · exact absurd e (s2 j hj)
            · exact e
          subst hi
          have hcle := cnt_le (mm 5) 30
          have hP8 := h.2.2.2.2.2.2.2.1
          have hC7 := h.2.2.2.2.2.2.2.2.2.2.2.2.2.2.2.1
          have hsh := shut_eq h.2.2.2.2.2.1.1 hP8 hC7 hk
          obtain ⟨v, ev⟩ : ∃ v, v = (if mm 10 k = I 0 then I 1 else I 0) := ⟨_, rfl⟩
          have z : I g ≠ nn := by rw [ne_eq, I_nn (by omega)]; exact fun h => h
          have ev5 : (if ct 5 k = I 0 then I 1 else I 0) = v := by
            rw [ev]
            rcases hsh with ⟨e, e'⟩ | ⟨e, e'⟩
            · rw [if_pos e, if_pos e']
            · have e9 : ¬ mm 10 k = I 0 := by rw [e, I01]; exact fun h => h
              rw [if_neg e9, if_neg e']
          refine Or.inr ⟨I n, iS (aS (aS cw 2 (I k) (I g)) 4 (I g) (I k)) 7 (I n), aS ct 6 (I k) v, aS (aS (aS (aS (aS (iS mm 40 (I 0)) 5 (I k) (I g)) 12 (I k) (I 0)) 13 (I k) (I 0)) 14 (I k) (I 0)) 12 (I k) v, ?_, ?_, rfl, ?_⟩
          · have en : cnt (mm 5) 30 + 1 = n := by omega
            simp (disch := omega) only [fX5_house, fX5_spotOf, fX4_putHouse, needPort_t ha hb, needHouse_t hg, openFor _ _ hk, ck1, bd1, bx1, bx2, aS_at, iS_at, upd_at, ↓reduceIte, Nat.reduceEqDiff, Nat.reduceAdd, Nat.reduceMul, Nat.reduceSub, Nat.reduceDiv, Nat.reduceLT, Nat.reduceLeDiff, Nat.reduceBEq, ne_eq, not_true_eq_false, not_false_eq_true, reduceCtorEq, if_true, if_false, eq_self, Nat.add_zero, Nat.zero_add, lit, lit_nn, I_nat, I_add, I_mul, I_sub, I_div, inb_t, I_ne, I_nn, nn_I, nn_lt, nn_le, lt_nn, le_nn, I_t, I_f, I_lt_t, I_lt_f, isb_0, isb_1, vz_0, vz_1, nn_nat, e1, hbare, I01, s1, hcn, en, and_true, ev5]
          · rcases hsh with ⟨e, -⟩ | ⟨e, -⟩
            · simp (disch := omega) only [fX6_house, fX6_house_J20, isPort_t ha hb, isHouse_t hg, ck1, bd1, bx1, bx2, aS_at, iS_at, upd_at, ↓reduceIte, Nat.reduceEqDiff, Nat.reduceAdd, Nat.reduceMul, Nat.reduceSub, Nat.reduceDiv, Nat.reduceLT, Nat.reduceLeDiff, Nat.reduceBEq, ne_eq, not_true_eq_false, not_false_eq_true, reduceCtorEq, if_true, if_false, eq_self, Nat.add_zero, Nat.zero_add, lit, lit_nn, I_nat, I_add, I_mul, I_sub, I_div, inb_t, I_ne, I_nn, nn_I, nn_lt, nn_le, lt_nn, le_nn, I_t, I_f, I_lt_t, I_lt_f, isb_0, isb_1, vz_0, vz_1, nn_nat, I01, e2, q1]
              simp (disch := omega) only [fX6_house_J95, uu, fX6_house_J124, fX6_house_J167, fails_0, begins_eq _ hk, ck1, bd1, bx1, bx2, aS_at, iS_at, upd_at, ↓reduceIte, Nat.reduceEqDiff, Nat.reduceAdd, Nat.reduceMul, Nat.reduceSub, Nat.reduceDiv, Nat.reduceLT, Nat.reduceLeDiff, Nat.reduceBEq, ne_eq, not_true_eq_false, not_false_eq_true, reduceCtorEq, if_true, if_false, eq_self, Nat.add_zero, Nat.zero_add, lit, lit_nn, I_nat, I_add, I_mul, I_sub, I_div, inb_t, I_ne, I_nn, nn_I, nn_lt, nn_le, lt_nn, le_nn, I_t, I_f, I_lt_t, I_lt_f, isb_0, isb_1, vz_0, vz_1, nn_nat, I01, ev, e]
            · simp (disch := omega) only [fX6_house, fX6_house_J20, isPort_t ha hb, isHouse_t hg, ck1, bd1, bx1, bx2, aS_at, iS_at, upd_at, ↓reduceIte, Nat.reduceEqDiff, Nat.reduceAdd, Nat.reduceMul, Nat.reduceSub, Nat.reduceDiv, Nat.reduceLT, Nat.reduceLeDiff, Nat.reduceBEq, ne_eq, not_true_eq_false, not_false_eq_true, reduceCtorEq, if_true, if_false, eq_self, Nat.add_zero, Nat.zero_add, lit, lit_nn, I_nat, I_add, I_mul, I_sub, I_div, inb_t, I_ne, I_nn, nn_I, nn_lt, nn_le, lt_nn, le_nn, I_t, I_f, I_lt_t, I_lt_f, isb_0, isb_1, vz_0, vz_1, nn_nat, I01, e2, q1]
              simp (disch := omega) only [fX6_house_J95, uu, fX6_house_J124, fX6_house_J167, fails_0, begins_eq _ hk, ck1, bd1, bx1, bx2, aS_at, iS_at, upd_at, ↓reduceIte, Nat.reduceEqDiff, Nat.reduceAdd, Nat.reduceMul, Nat.reduceSub, Nat.reduceDiv, Nat.reduceLT, Nat.reduceLeDiff, Nat.reduceBEq, ne_eq, not_true_eq_false, not_false_eq_true, reduceCtorEq, if_true, if_false, eq_self, Nat.add_zero, Nat.zero_add, lit, lit_nn, I_nat, I_add, I_mul, I_sub, I_div, inb_t, I_ne, I_nn, nn_I, nn_lt, nn_le, lt_nn, le_nn, I_t, I_f, I_lt_t, I_lt_f, isb_0, isb_1, vz_0, vz_1, nn_nat, I01, ev, e]
          · obtain ⟨p1, p2, p3, p4, p5, p6, p7, p8, p9, c1, c2, c3, c4, c5, c6, c7, c8, c9, c10⟩ := h
            have vs : v = I 0 ∨ v = I 1 := by rw [ev]; split; exact Or.inr rfl; exact Or.inl rfl
            refine ⟨p1, p2, ?_, p4, p5, p6, p7, ?_, p9.put _, c1, ?_, ?_, ?_, c5, c6, ?_, c8, c9, c10⟩
            · refine ⟨fun i hi => ?_, fun i j hi hj => ?_⟩
              · simp (disch := omega) only [ck1, bd1, bx1, bx2, aS_at, iS_at, upd_at, ↓reduceIte, Nat.reduceEqDiff, Nat.reduceAdd, Nat.reduceMul, Nat.reduceSub, Nat.reduceDiv, Nat.reduceLT, Nat.reduceLeDiff, Nat.reduceBEq, ne_eq, not_true_eq_false, not_false_eq_true, reduceCtorEq, if_true, if_false, eq_self, Nat.add_zero, Nat.zero_add, lit, lit_nn, I_nat, I_add, I_mul, I_sub, I_div, inb_t, I_ne, I_nn, nn_I, nn_lt, nn_le, lt_nn, le_nn, I_t, I_f, I_lt_t, I_lt_f, isb_0, isb_1, vz_0, vz_1, nn_nat]
                by_cases i1 : i = k
                · subst i1
                  simp only [↓reduceIte]
                  exact Or.inr ⟨u1, g, hg, rfl⟩
                · simp only [i1, ↓reduceIte]
                  exact p3.1 i hi
              · simp (disch := omega) only [ck1, bd1, bx1, bx2, aS_at, iS_at, upd_at, ↓reduceIte, Nat.reduceEqDiff, Nat.reduceAdd, Nat.reduceMul, Nat.reduceSub, Nat.reduceDiv, Nat.reduceLT, Nat.reduceLeDiff, Nat.reduceBEq, ne_eq, not_true_eq_false, not_false_eq_true, reduceCtorEq, if_true, if_false, eq_self, Nat.add_zero, Nat.zero_add, lit, lit_nn, I_nat, I_add, I_mul, I_sub, I_div, inb_t, I_ne, I_nn, nn_I, nn_lt, nn_le, lt_nn, le_nn, I_t, I_f, I_lt_t, I_lt_f, isb_0, isb_1, vz_0, vz_1, nn_nat]
                by_cases i1 : i = k
                · subst i1
                  by_cases j1 : j = i
                  · intro _ _; exact j1.symm
                  · simp only [j1, ↓reduceIte]
                    intro e; exact absurd e.symm (s2 j hj)
                · by_cases j1 : j = k
                  · subst j1
                    simp only [i1, ↓reduceIte]
                    intro e; exact absurd e (s2 i hi)
                  · simp only [i1, j1, ↓reduceIte]
                    exact p3.2 i j hi hj
            · intro i hi
              have d := p8 i hi
              simp (disch := omega) only [ck1, bd1, bx1, bx2, aS_at, iS_at, upd_at, ↓reduceIte, Nat.reduceEqDiff, Nat.reduceAdd, Nat.reduceMul, Nat.reduceSub, Nat.reduceDiv, Nat.reduceLT, Nat.reduceLeDiff, Nat.reduceBEq, ne_eq, not_true_eq_false, not_false_eq_true, reduceCtorEq, if_true, if_false, eq_self, Nat.add_zero, Nat.zero_add, lit, lit_nn, I_nat, I_add, I_mul, I_sub, I_div, inb_t, I_ne, I_nn, nn_I, nn_lt, nn_le, lt_nn, le_nn, I_t, I_f, I_lt_t, I_lt_f, isb_0, isb_1, vz_0, vz_1, nn_nat]
              by_cases i1 : i = k
              · subst i1
                simp only [↓reduceIte]
                refine ⟨d.1, ?_, ⟨0, by omega, rfl⟩, d.2.2.2.1, d.2.2.2.2.1, ?_, fun _ => trivial, fun h => absurd h (by rw [I10]; exact fun h => h), 0, by omega, rfl, fun _ _ => by omega⟩
                · rcases vs with e | e
                  · exact ⟨0, by omega, e⟩
                  · exact ⟨1, by omega, e⟩
                · intro e
                  refine ⟨?_, Or.inr z⟩
                  rw [ev] at e
                  rcases hsh with ⟨e2, -⟩ | ⟨e2, -⟩
                  · exact e2
                  · have e9 : ¬ mm 10 i = I 0 := by rw [e2, I01]; exact fun h => h
                    rw [if_neg e9, I10] at e
                    exact False.elim e
              · simp only [i1, ↓reduceIte]
                exact d
            · intro i hi
              obtain ⟨d1, d2, d3, d4⟩ := c2 i hi
              simp (disch := omega) only [ck1, bd1, bx1, bx2, aS_at, iS_at, upd_at, ↓reduceIte, Nat.reduceEqDiff, Nat.reduceAdd, Nat.reduceMul, Nat.reduceSub, Nat.reduceDiv, Nat.reduceLT, Nat.reduceLeDiff, Nat.reduceBEq, ne_eq, not_true_eq_false, not_false_eq_true, reduceCtorEq, if_true, if_false, eq_self, Nat.add_zero, Nat.zero_add, lit, lit_nn, I_nat, I_add, I_mul, I_sub, I_div, inb_t, I_ne, I_nn, nn_I, nn_lt, nn_le, lt_nn, le_nn, I_t, I_f, I_lt_t, I_lt_f, isb_0, isb_1, vz_0, vz_1, nn_nat]
              by_cases i1 : i = k
              · subst i1
                simp only [↓reduceIte]
                exact ⟨d1, d2, trivial, d4⟩
              · simp only [i1, ↓reduceIte]
                exact ⟨d1, d2, d3, d4⟩
            · intro g' hg'
              simp (disch := omega) only [ck1, bd1, bx1, bx2, aS_at, iS_at, upd_at, ↓reduceIte, Nat.reduceEqDiff, Nat.reduceAdd, Nat.reduceMul, Nat.reduceSub, Nat.reduceDiv, Nat.reduceLT, Nat.reduceLeDiff, Nat.reduceBEq, ne_eq, not_true_eq_false, not_false_eq_true, reduceCtorEq, if_true, if_false, eq_self, Nat.add_zero, Nat.zero_add, lit, lit_nn, I_nat, I_add, I_mul, I_sub, I_div, inb_t, I_ne, I_nn, nn_I, nn_lt, nn_le, lt_nn, le_nn, I_t, I_f, I_lt_t, I_lt_f, isb_0, isb_1, vz_0, vz_1, nn_nat]
              by_cases g1 : g' = g
              · subst g1
                simp only [↓reduceIte]
                right
                exact ⟨k, hk, rfl, by rw [if_pos rfl]⟩
              · simp only [g1, ↓reduceIte]
                rcases c3 g' hg' with ⟨d1, d2⟩ | ⟨i, hi, d1, d2⟩
                · left
                  refine ⟨d1, fun i hi => ?_⟩
                  by_cases i1 : i = k
                  · rw [if_pos i1, I_inj (by omega) (by omega)]
                    exact fun h => g1 h.symm
                  · rw [if_neg i1]
                    exact d2 i hi
                · right
                  refine ⟨i, hi, d1, ?_⟩
                  by_cases i1 : i = k
                  · subst i1
                    rw [u2, nn_I (by omega)] at d2
                    exact False.elim d2
                  · rw [if_neg i1]; exact d2
            · refine ⟨c4.1, ?_⟩
              have q := cnt_upd (mm 5) k (I g) 30 hk
              rw [u2, if_pos rfl, if_neg z] at q
              have e33 : (aS (aS (aS (aS (aS (iS mm 40 (I 0)) 5 (I k) (I g)) 12 (I k) (I 0)) 13 (I k) (I 0)) 14 (I k) (I 0)) 12 (I k) v) 5 = upd (mm 5) k (I g) := by
                simp (disch := omega) only [ck1, bd1, bx1, bx2, aS_at, iS_at, upd_at, ↓reduceIte, Nat.reduceEqDiff, Nat.reduceAdd, Nat.reduceMul, Nat.reduceSub, Nat.reduceDiv, Nat.reduceLT, Nat.reduceLeDiff, Nat.reduceBEq, ne_eq, not_true_eq_false, not_false_eq_true, reduceCtorEq, if_true, if_false, eq_self, Nat.add_zero, Nat.zero_add, lit, lit_nn, I_nat, I_add, I_mul, I_sub, I_div, inb_t, I_ne, I_nn, nn_I, nn_lt, nn_le, lt_nn, le_nn, I_t, I_f, I_lt_t, I_lt_f, isb_0, isb_1, vz_0, vz_1, nn_nat]
              rw [e33]
              show I n = _
              congr 1
              omega
            · intro i hi
              have d := c7 i hi
              simp (disch := omega) only [ck1, bd1, bx1, bx2, aS_at, iS_at, upd_at, ↓reduceIte, Nat.reduceEqDiff, Nat.reduceAdd, Nat.reduceMul, Nat.reduceSub, Nat.reduceDiv, Nat.reduceLT, Nat.reduceLeDiff, Nat.reduceBEq, ne_eq, not_true_eq_false, not_false_eq_true, reduceCtorEq, if_true, if_false, eq_self, Nat.add_zero, Nat.zero_add, lit, lit_nn, I_nat, I_add, I_mul, I_sub, I_div, inb_t, I_ne, I_nn, nn_I, nn_lt, nn_le, lt_nn, le_nn, I_t, I_f, I_lt_t, I_lt_f, isb_0, isb_1, vz_0, vz_1, nn_nat]
              by_cases i1 : i = k
              · subst i1
                have r0 := (p8 i hi).2.2.2.2.2.2.1 u1
                have t0 := d.2.2.2.2.2.1 u1
                simp only [↓reduceIte]
                exact ⟨trivial, d.2.1.trans r0, d.2.2.1, d.2.2.2.1, d.2.2.2.2.1, fun _ => t0, fun _ => t0, fun _ _ => t0⟩
              · simp only [i1, ↓reduceIte]
                exact d
        · refine Or.inl ⟨3, I 0, iS mm 40 (I 2), Or.inr ⟨rfl, rfl⟩, ?_, ?_, h.thrown _⟩
          · simp (disch := omega) only [fX5_house, fX5_spotOf, needPort_t ha hb, needHouse_t hg, ck1, bd1, bx1, bx2, aS_at, iS_at, upd_at, ↓reduceIte, Nat.reduceEqDiff, Nat.reduceAdd, Nat.reduceMul, Nat.reduceSub, Nat.reduceDiv, Nat.reduceLT, Nat.reduceLeDiff, Nat.reduceBEq, ne_eq, not_true_eq_false, not_false_eq_true, reduceCtorEq, if_true, if_false, eq_self, Nat.add_zero, Nat.zero_add, lit, lit_nn, I_nat, I_add, I_mul, I_sub, I_div, inb_t, I_ne, I_nn, nn_I, nn_lt, nn_le, lt_nn, le_nn, I_t, I_f, I_lt_t, I_lt_f, isb_0, isb_1, vz_0, vz_1, nn_nat, e1, hbare, I01, s1]
          · have hi : i = I 1 := by
              rcases q3 with ⟨e, -⟩ | ⟨-, e⟩
              · exact e
              · exact absurd s2 (e j hj)
            subst hi
            simp (disch := omega) only [fX6_house, fX6_house_J20, isPort_t ha hb, isHouse_t hg, ck1, bd1, bx1, bx2, aS_at, iS_at, upd_at, ↓reduceIte, Nat.reduceEqDiff, Nat.reduceAdd, Nat.reduceMul, Nat.reduceSub, Nat.reduceDiv, Nat.reduceLT, Nat.reduceLeDiff, Nat.reduceBEq, ne_eq, not_true_eq_false, not_false_eq_true, reduceCtorEq, if_true, if_false, eq_self, Nat.add_zero, Nat.zero_add, lit, lit_nn, I_nat, I_add, I_mul, I_sub, I_div, inb_t, I_ne, I_nn, nn_I, nn_lt, nn_le, lt_nn, le_nn, I_t, I_f, I_lt_t, I_lt_f, isb_0, isb_1, vz_0, vz_1, nn_nat, I01, e2, q1]
            simp (disch := omega) only [fX6_house_J95, uu, fX6_house_J124, fails_k, ck1, bd1, bx1, bx2, aS_at, iS_at, upd_at, ↓reduceIte, Nat.reduceEqDiff, Nat.reduceAdd, Nat.reduceMul, Nat.reduceSub, Nat.reduceDiv, Nat.reduceLT, Nat.reduceLeDiff, Nat.reduceBEq, ne_eq, not_true_eq_false, not_false_eq_true, reduceCtorEq, if_true, if_false, eq_self, Nat.add_zero, Nat.zero_add, lit, lit_nn, I_nat, I_add, I_mul, I_sub, I_div, inb_t, I_ne, I_nn, nn_I, nn_lt, nn_le, lt_nn, le_nn, I_t, I_f, I_lt_t, I_lt_f, isb_0, isb_1, vz_0, vz_1, nn_nat, I01]
      · have hbare := bare_f cw hk (by rw [(hw k hk).1, (hw k hk).2.2.1]; exact u1)
        refine Or.inl ⟨3, I 0, iS mm 40 (I 2), Or.inr ⟨rfl, rfl⟩, ?_, ?_, h.thrown _⟩
        · simp (disch := omega) only [fX5_house, fX5_spotOf, needPort_t ha hb, needHouse_t hg, ck1, bd1, bx1, bx2, aS_at, iS_at, upd_at, ↓reduceIte, Nat.reduceEqDiff, Nat.reduceAdd, Nat.reduceMul, Nat.reduceSub, Nat.reduceDiv, Nat.reduceLT, Nat.reduceLeDiff, Nat.reduceBEq, ne_eq, not_true_eq_false, not_false_eq_true, reduceCtorEq, if_true, if_false, eq_self, Nat.add_zero, Nat.zero_add, lit, lit_nn, I_nat, I_add, I_mul, I_sub, I_div, inb_t, I_ne, I_nn, nn_I, nn_lt, nn_le, lt_nn, le_nn, I_t, I_f, I_lt_t, I_lt_f, isb_0, isb_1, vz_0, vz_1, nn_nat, e1, hbare]
        · simp (disch := omega) only [fX6_house, fX6_house_J20, isPort_t ha hb, isHouse_t hg, ck1, bd1, bx1, bx2, aS_at, iS_at, upd_at, ↓reduceIte, Nat.reduceEqDiff, Nat.reduceAdd, Nat.reduceMul, Nat.reduceSub, Nat.reduceDiv, Nat.reduceLT, Nat.reduceLeDiff, Nat.reduceBEq, ne_eq, not_true_eq_false, not_false_eq_true, reduceCtorEq, if_true, if_false, eq_self, Nat.add_zero, Nat.zero_add, lit, lit_nn, I_nat, I_add, I_mul, I_sub, I_div, inb_t, I_ne, I_nn, nn_I, nn_lt, nn_le, lt_nn, le_nn, I_t, I_f, I_lt_t, I_lt_f, isb_0, isb_1, vz_0, vz_1, nn_nat, I01, e2, q1]
          simp (disch := omega) only [fX6_house_J95, uu, fX6_house_J124, fails_k, ck1, bd1, bx1, bx2, aS_at, iS_at, upd_at, ↓reduceIte, Nat.reduceEqDiff, Nat.reduceAdd, Nat.reduceMul, Nat.reduceSub, Nat.reduceDiv, Nat.reduceLT, Nat.reduceLeDiff, Nat.reduceBEq, ne_eq, not_true_eq_false, not_false_eq_true, reduceCtorEq, if_true, if_false, eq_self, Nat.add_zero, Nat.zero_add, lit, lit_nn, I_nat, I_add, I_mul, I_sub, I_div, inb_t, I_ne, I_nn, nn_I, nn_lt, nn_le, lt_nn, le_nn, I_t, I_f, I_lt_t, I_lt_f, isb_0, isb_1, vz_0, vz_1, nn_nat, I01]
    · refine Or.inl ⟨1, I 0, iS mm 40 (I 1), Or.inl ⟨rfl, rfl⟩, ?_, ?_, h.thrown _⟩
      · simp (disch := omega) only [fX5_house, needPort_t ha hb, needHouse_f h3, ck1, bd1, bx1, bx2, aS_at, iS_at, upd_at, ↓reduceIte, Nat.reduceEqDiff, Nat.reduceAdd, Nat.reduceMul, Nat.reduceSub, Nat.reduceDiv, Nat.reduceLT, Nat.reduceLeDiff, Nat.reduceBEq, ne_eq, not_true_eq_false, not_false_eq_true, reduceCtorEq, if_true, if_false, eq_self, Nat.add_zero, Nat.zero_add, lit, lit_nn, I_nat, I_add, I_mul, I_sub, I_div, inb_t, I_ne, I_nn, nn_I, nn_lt, nn_le, lt_nn, le_nn, I_t, I_f, I_lt_t, I_lt_f, isb_0, isb_1, vz_0, vz_1, nn_nat]
      · simp (disch := omega) only [fX6_house, isPort_t ha hb, isHouse_f h3, ck1, bd1, bx1, bx2, aS_at, iS_at, upd_at, ↓reduceIte, Nat.reduceEqDiff, Nat.reduceAdd, Nat.reduceMul, Nat.reduceSub, Nat.reduceDiv, Nat.reduceLT, Nat.reduceLeDiff, Nat.reduceBEq, ne_eq, not_true_eq_false, not_false_eq_true, reduceCtorEq, if_true, if_false, eq_self, Nat.add_zero, Nat.zero_add, lit, lit_nn, I_nat, I_add, I_mul, I_sub, I_div, inb_t, I_ne, I_nn, nn_I, nn_lt, nn_le, lt_nn, le_nn, I_t, I_f, I_lt_t, I_lt_f, isb_0, isb_1, vz_0, vz_1, nn_nat, I01, bad]
  · refine Or.inl ⟨1, I 0, iS mm 40 (I 1), Or.inl ⟨rfl, rfl⟩, ?_, ?_, h.thrown _⟩
    · simp (disch := omega) only [fX5_house, hc, ck1, bd1, bx1, bx2, aS_at, iS_at, upd_at, ↓reduceIte, Nat.reduceEqDiff, Nat.reduceAdd, Nat.reduceMul, Nat.reduceSub, Nat.reduceDiv, Nat.reduceLT, Nat.reduceLeDiff, Nat.reduceBEq, ne_eq, not_true_eq_false, not_false_eq_true, reduceCtorEq, if_true, if_false, eq_self, Nat.add_zero, Nat.zero_add, lit, lit_nn, I_nat, I_add, I_mul, I_sub, I_div, inb_t, I_ne, I_nn, nn_I, nn_lt, nn_le, lt_nn, le_nn, I_t, I_f, I_lt_t, I_lt_f, isb_0, isb_1, vz_0, vz_1, nn_nat]
    · simp (disch := omega) only [fX6_house, hm, ck1, bd1, bx1, bx2, aS_at, iS_at, upd_at, ↓reduceIte, Nat.reduceEqDiff, Nat.reduceAdd, Nat.reduceMul, Nat.reduceSub, Nat.reduceDiv, Nat.reduceLT, Nat.reduceLeDiff, Nat.reduceBEq, ne_eq, not_true_eq_false, not_false_eq_true, reduceCtorEq, if_true, if_false, eq_self, Nat.add_zero, Nat.zero_add, lit, lit_nn, I_nat, I_add, I_mul, I_sub, I_div, inb_t, I_ne, I_nn, nn_I, nn_lt, nn_le, lt_nn, le_nn, I_t, I_f, I_lt_t, I_lt_f, isb_0, isb_1, vz_0, vz_1, nn_nat, bad]

theorem cold {c : St} (h : CntOK c) (now : Int32) : ∃ c', fX2_dropOld c now = some c' ∧ CntOK c' ∧ c' 1 = c 1 ∧ ∀ x, x < 180 → (c 0 x ≠ nn ∧ ¬ (now - c 1 x < I 10) → c' 0 x = nn) ∧ (¬ (c 0 x ≠ nn ∧ ¬ (now - c 1 x < I 10)) → c' 0 x = c 0 x) := by
  obtain ⟨Q, eQ⟩ : ∃ Q : Nat → St → Prop, Q = fun j d => CntOK d ∧ d 1 = c 1 ∧ ∀ x, (x < j ∧ c 0 x ≠ nn ∧ ¬ (now - c 1 x < I 10) → d 0 x = nn) ∧ (¬ (x < j ∧ c 0 x ≠ nn ∧ ¬ (now - c 1 x < I 10)) → d 0 x = c 0 x) := ⟨_, rfl⟩
  have hb : ∀ j d, j < 180 → Q j d → ∃ d', Q (j + 1) d' ∧ ∀ rec, fX2_dropOld_S2 rec now d (I j) = rec (d', I (j + 1)) := by
    intro j d hj hQ
    rw [eQ] at hQ
    obtain ⟨q1, q2, q3⟩ := hQ
    have e0 : d 0 j = c 0 j := (q3 j).2 (by omega)
    have e1 : d 1 j = c 1 j := by rw [q2]
    by_cases hc : c 0 j ≠ nn ∧ ¬ (now - c 1 j < I 10)
    · obtain ⟨d', g1, g2, g3, g4⟩ := cdrop q1 (x := j) (by omega) (by rw [e0]; exact hc.1)
      obtain ⟨hc1, hc2⟩ := hc
      refine ⟨d', ?_, fun rec => ?_⟩
      · rw [eQ]
        refine ⟨g2, g4.trans q2, fun x => ⟨fun hh => ?_, fun hh => ?_⟩⟩
        · rw [g3, upd_at]
          by_cases z : x = j
          · rw [if_pos z]
          · rw [if_neg z]
            exact (q3 x).1 ⟨by omega, hh.2⟩
        · rw [g3, upd_at]
          have z : x ≠ j := fun z => hh ⟨by omega, by rw [z]; exact ⟨hc1, hc2⟩⟩
          rw [if_neg z]
          exact (q3 x).2 (fun w => hh ⟨by omega, w.2⟩)
      · simp (disch := omega) only [fX2_dropOld_S2, ck1, bd1, bx1, bx2, aS_at, iS_at, upd_at, ↓reduceIte, Nat.reduceEqDiff, Nat.reduceAdd, Nat.reduceMul, Nat.reduceSub, Nat.reduceDiv, Nat.reduceLT, Nat.reduceLeDiff, Nat.reduceBEq, ne_eq, not_true_eq_false, not_false_eq_true, reduceCtorEq, if_true, if_false, eq_self, Nat.add_zero, Nat.zero_add, lit, lit_nn, I_nat, I_add, I_mul, I_sub, I_div, inb_t, I_ne, I_nn, nn_I, nn_lt, nn_le, lt_nn, le_nn, I_t, I_f, I_lt_t, I_lt_f, isb_0, isb_1, vz_0, vz_1, nn_nat, e0, e1, hc1, hc2, g1]
    · refine ⟨d, ?_, fun rec => ?_⟩
      · rw [eQ]
        refine ⟨q1, q2, fun x => ⟨fun hh => ?_, fun hh => ?_⟩⟩
        · have z : x ≠ j := fun z => hc (by rw [← z]; exact hh.2)
          exact (q3 x).1 ⟨by omega, hh.2⟩
        · exact (q3 x).2 (fun w => hh ⟨by omega, w.2⟩)
      · by_cases z : c 0 j = nn
        · simp (disch := omega) only [fX2_dropOld_S2, ck1, bd1, bx1, bx2, aS_at, iS_at, upd_at, ↓reduceIte, Nat.reduceEqDiff, Nat.reduceAdd, Nat.reduceMul, Nat.reduceSub, Nat.reduceDiv, Nat.reduceLT, Nat.reduceLeDiff, Nat.reduceBEq, ne_eq, not_true_eq_false, not_false_eq_true, reduceCtorEq, if_true, if_false, eq_self, Nat.add_zero, Nat.zero_add, lit, lit_nn, I_nat, I_add, I_mul, I_sub, I_div, inb_t, I_ne, I_nn, nn_I, nn_lt, nn_le, lt_nn, le_nn, I_t, I_f, I_lt_t, I_lt_f, isb_0, isb_1, vz_0, vz_1, nn_nat, e0, z]
        · have z2 : now - c 1 j < I 10 := by
            apply Classical.byContradiction
            intro w; exact hc ⟨z, w⟩
          simp (disch := omega) only [fX2_dropOld_S2, ck1, bd1, bx1, bx2, aS_at, iS_at, upd_at, ↓reduceIte, Nat.reduceEqDiff, Nat.reduceAdd, Nat.reduceMul, Nat.reduceSub, Nat.reduceDiv, Nat.reduceLT, Nat.reduceLeDiff, Nat.reduceBEq, ne_eq, not_true_eq_false, not_false_eq_true, reduceCtorEq, if_true, if_false, eq_self, Nat.add_zero, Nat.zero_add, lit, lit_nn, I_nat, I_add, I_mul, I_sub, I_div, inb_t, I_ne, I_nn, nn_I, nn_lt, nn_le, lt_nn, le_nn, I_t, I_f, I_lt_t, I_lt_f, isb_0, isb_1, vz_0, vz_1, nn_nat, e0, e1, z, z2]
  have he : ∀ d, Q 180 d → ∀ rec, fX2_dropOld_S2 rec now d (I 180) = some d := by
    intro d _ rec
    simp (disch := omega) only [fX2_dropOld_S2, ck1, bd1, bx1, bx2, aS_at, iS_at, upd_at, ↓reduceIte, Nat.reduceEqDiff, Nat.reduceAdd, Nat.reduceMul, Nat.reduceSub, Nat.reduceDiv, Nat.reduceLT, Nat.reduceLeDiff, Nat.reduceBEq, ne_eq, not_true_eq_false, not_false_eq_true, reduceCtorEq, if_true, if_false, eq_self, Nat.add_zero, Nat.zero_add, lit, lit_nn, I_nat, I_add, I_mul, I_sub, I_div, inb_t, I_ne, I_nn, nn_I, nn_lt, nn_le, lt_nn, le_nn, I_t, I_f, I_lt_t, I_lt_f, isb_0, isb_1, vz_0, vz_1, nn_nat]
  obtain ⟨c', hQ, hl⟩ := loop_up (step := fun k' a => fX2_dropOld_S2 k' now (a.1) (a.2)) (fun j (d : St) => (d, I j)) 180 Q (fun d => some d) hb he 180 0 c 1000 (by omega) (by omega) (by
    rw [eQ]
    exact ⟨h, rfl, fun x => ⟨fun hh => by omega, fun _ => rfl⟩⟩)
  rw [eQ] at hQ
  obtain ⟨q1, q2, q3⟩ := hQ
  refine ⟨c', ?_, q1, q2, fun x hx => ⟨fun hh => (q3 x).1 ⟨hx, hh⟩, fun hh => (q3 x).2 (fun w => hh w.2)⟩⟩
  rw [← hl]
  simp (disch := omega) only [fX2_dropOld, fX2_dropOld_L2, ck1, bd1, bx1, bx2, aS_at, iS_at, upd_at, ↓reduceIte, Nat.reduceEqDiff, Nat.reduceAdd, Nat.reduceMul, Nat.reduceSub, Nat.reduceDiv, Nat.reduceLT, Nat.reduceLeDiff, Nat.reduceBEq, ne_eq, not_true_eq_false, not_false_eq_true, reduceCtorEq, if_true, if_false, eq_self, Nat.add_zero, Nat.zero_add, lit, lit_nn, I_nat, I_add, I_mul, I_sub, I_div, inb_t, I_ne, I_nn, nn_I, nn_lt, nn_le, lt_nn, le_nn, I_t, I_f, I_lt_t, I_lt_f, isb_0, isb_1, vz_0, vz_1, nn_nat]
/-- class and reference drop what is old -/
theorem old_both {c m : St} (h : CTab (c 0) (c 1) (c 2) (m 24) (m 25) (m 26) (m 27) (m 28)) : ∃ c' m', fX2_dropOld c (m 0 0) = some c' ∧ fX6_beats_L43 m (I 0) = fX6_beats_J105 m' ∧ Fm m' m ∧ CTab (c' 0) (c' 1) (c' 2) (m' 24) (m' 25) (m' 26) (m' 27) (m' 28) := by
  obtain ⟨c', g1, g2, g3, g4⟩ := cold (ctab_cnt h) (m 0 0)
  obtain ⟨m', f1, f2, f3⟩ := ref_old (m := m) (c0 := c 0) (c1 := c 1) (fun s hs => by
    obtain ⟨n, P, e, -⟩ := h s hs
    exact ⟨n, P, e⟩)
  refine ⟨c', m', g1, f1, f2, ctab_mk g2 fun s hs => ?_⟩
  obtain ⟨n, P, d0, e1, e2⟩ := f3 s hs
  refine ⟨n, P, e1.ext rfl (fun i hi => ⟨rfl, rfl, rfl, rfl⟩) (fun o ho => ⟨?_, fun _ => by rw [g3]⟩)⟩
  by_cases z : c 0 (30 * s + o) ≠ nn ∧ ¬ (m 0 0 - c 1 (30 * s + o) < I 10)
  · rw [(g4 _ (by omega)).1 z, (e2 o ho).1 z]
  · rw [(g4 _ (by omega)).2 z, (e2 o ho).2 z]
theorem cempty {c : St} (h : CntOK c) {s : Nat} (hs : s < 6) : ∃ c', fX2_empty c (I s) = some c' ∧ CntOK c' ∧ c' 1 = c 1 ∧ ∀ x, (30 * s ≤ x ∧ x < 30 * s + 30 → c' 0 x = nn) ∧ (¬ (30 * s ≤ x ∧ x < 30 * s + 30) → c' 0 x = c 0 x) := by
  obtain ⟨b, eb⟩ : ∃ b, b = s * 30 := ⟨_, rfl⟩
  obtain ⟨Q, eQ⟩ : ∃ Q : Nat → St → Prop, Q = fun j d => d 2 = c 2 ∧ d 1 = c 1 ∧ ∀ x, (b ≤ x ∧ x < b + j → d 0 x = nn) ∧ (¬ (b ≤ x ∧ x < b + j) → d 0 x = c 0 x) := ⟨_, rfl⟩
  have hb : ∀ j d, j < 30 → Q j d → ∃ d', Q (j + 1) d' ∧ ∀ rec, fX2_empty_S7 rec (I s) (I b) d (I (b + j)) = rec (d', I (b + (j + 1))) := by
    intro j d hj hQ
    rw [eQ] at hQ
    obtain ⟨q1, q2, q3⟩ := hQ
    refine ⟨aS d 0 (I (b + j)) nn, ?_, fun rec => ?_⟩
    · rw [eQ]
      refine ⟨?_, ?_, fun x => ?_⟩
      · simp (disch := omega) only [ck1, bd1, bx1, bx2, aS_at, iS_at, upd_at, ↓reduceIte, Nat.reduceEqDiff, Nat.reduceAdd, Nat.reduceMul, Nat.reduceSub, Nat.reduceDiv, Nat.reduceLT, Nat.reduceLeDiff, Nat.reduceBEq, ne_eq, not_true_eq_false, not_false_eq_true, reduceCtorEq, if_true, if_false, eq_self, Nat.add_zero, Nat.zero_add, lit, lit_nn, I_nat, I_add, I_mul, I_sub, I_div, inb_t, I_ne, I_nn, nn_I, nn_lt, nn_le, lt_nn, le_nn, I_t, I_f, I_lt_t, I_lt_f, isb_0, isb_1, vz_0, vz_1, nn_nat]; exact q1
      · simp (disch := omega) only [ck1, bd1, bx1, bx2, aS_at, iS_at, upd_at, ↓reduceIte, Nat.reduceEqDiff, Nat.reduceAdd, Nat.reduceMul, Nat.reduceSub, Nat.reduceDiv, Nat.reduceLT, Nat.reduceLeDiff, Nat.reduceBEq, ne_eq, not_true_eq_false, not_false_eq_true, reduceCtorEq, if_true, if_false, eq_self, Nat.add_zero, Nat.zero_add, lit, lit_nn, I_nat, I_add, I_mul, I_sub, I_div, inb_t, I_ne, I_nn, nn_I, nn_lt, nn_le, lt_nn, le_nn, I_t, I_f, I_lt_t, I_lt_f, isb_0, isb_1, vz_0, vz_1, nn_nat]; exact q2
      · simp (disch := omega) only [ck1, bd1, bx1, bx2, aS_at, iS_at, upd_at, ↓reduceIte, Nat.reduceEqDiff, Nat.reduceAdd, Nat.reduceMul, Nat.reduceSub, Nat.reduceDiv, Nat.reduceLT, Nat.reduceLeDiff, Nat.reduceBEq, ne_eq, not_true_eq_false, not_false_eq_true, reduceCtorEq, if_true, if_false, eq_self, Nat.add_zero, Nat.zero_add, lit, lit_nn, I_nat, I_add, I_mul, I_sub, I_div, inb_t, I_ne, I_nn, nn_I, nn_lt, nn_le, lt_nn, le_nn, I_t, I_f, I_lt_t, I_lt_f, isb_0, isb_1, vz_0, vz_1, nn_nat]
        by_cases z : x = b + j
        · rw [if_pos z]; exact ⟨fun _ => rfl, fun hh => absurd ⟨by omega, by omega⟩ hh⟩
        · rw [if_neg z]
          exact ⟨fun hh => (q3 x).1 (by omega), fun hh => (q3 x).2 (by omega)⟩
    · simp (disch := omega) only [fX2_empty_S7, ck1, bd1, bx1, bx2, aS_at, iS_at, upd_at, ↓reduceIte, Nat.reduceEqDiff, Nat.reduceAdd, Nat.reduceMul, Nat.reduceSub, Nat.reduceDiv, Nat.reduceLT, Nat.reduceLeDiff, Nat.reduceBEq, ne_eq, not_true_eq_false, not_false_eq_true, reduceCtorEq, if_true, if_false, eq_self, Nat.add_zero, Nat.zero_add, lit, lit_nn, I_nat, I_add, I_mul, I_sub, I_div, inb_t, I_ne, I_nn, nn_I, nn_lt, nn_le, lt_nn, le_nn, I_t, I_f, I_lt_t, I_lt_f, isb_0, isb_1, vz_0, vz_1, nn_nat]
      rfl
  have he : ∀ d, Q 30 d → ∀ rec, fX2_empty_S7 rec (I s) (I b) d (I (b + 30)) = some (aS d 2 (I s) (I 0)) := by
    intro d _ rec
    simp (disch := omega) only [fX2_empty_S7, fX2_empty_J28, ck1, bd1, bx1, bx2, aS_at, iS_at, upd_at, ↓reduceIte, Nat.reduceEqDiff, Nat.reduceAdd, Nat.reduceMul, Nat.reduceSub, Nat.reduceDiv, Nat.reduceLT, Nat.reduceLeDiff, Nat.reduceBEq, ne_eq, not_true_eq_false, not_false_eq_true, reduceCtorEq, if_true, if_false, eq_self, Nat.add_zero, Nat.zero_add, lit, lit_nn, I_nat, I_add, I_mul, I_sub, I_div, inb_t, I_ne, I_nn, nn_I, nn_lt, nn_le, lt_nn, le_nn, I_t, I_f, I_lt_t, I_lt_f, isb_0, isb_1, vz_0, vz_1, nn_nat]
  obtain ⟨d, hQ, hl⟩ := loop_up (step := fun k' a => fX2_empty_S7 k' (I s) (I b) (a.1) (a.2)) (fun j (d : St) => (d, I (b + j))) 30 Q (fun d => some (aS d 2 (I s) (I 0))) hb he 30 0 c 1000 (by omega) (by omega) (by
    rw [eQ]
    exact ⟨rfl, rfl, fun x => ⟨fun hh => by omega, fun _ => rfl⟩⟩)
  rw [eQ] at hQ
  obtain ⟨q1, q2, q3⟩ := hQ
  have z0 : (aS d 2 (I s) (I 0)) 0 = d 0 := rfl
  have z1 : (aS d 2 (I s) (I 0)) 1 = d 1 := rfl
  refine ⟨aS d 2 (I s) (I 0), ?_, fun s' hs' => ?_, z1.trans q2, fun x => ?_⟩
  · rw [← hl]
    simp (disch := omega) only [fX2_empty, fX2_empty_L7, ck1, bd1, bx1, bx2, aS_at, iS_at, upd_at, ↓reduceIte, Nat.reduceEqDiff, Nat.reduceAdd, Nat.reduceMul, Nat.reduceSub, Nat.reduceDiv, Nat.reduceLT, Nat.reduceLeDiff, Nat.reduceBEq, ne_eq, not_true_eq_false, not_false_eq_true, reduceCtorEq, if_true, if_false, eq_self, Nat.add_zero, Nat.zero_add, lit, lit_nn, I_nat, I_add, I_mul, I_sub, I_div, inb_t, I_ne, I_nn, nn_I, nn_lt, nn_le, lt_nn, le_nn, I_t, I_f, I_lt_t, I_lt_f, isb_0, isb_1, vz_0, vz_1, nn_nat, ← eb]
  · rw [z0]
    by_cases e : s' = s
    · subst e
      have e3 : cnt (fun o => d 0 (30 * s' + o)) 30 = 0 := cnt_bij 0 _ (fun _ => 0) (fun i hi => by omega) (fun i j hi => by omega) (fun o ho hh => absurd ((q3 _).1 (by omega)) hh)
      rw [e3]
      simp (disch := omega) only [ck1, bd1, bx1, bx2, aS_at, iS_at, upd_at, ↓reduceIte, Nat.reduceEqDiff, Nat.reduceAdd, Nat.reduceMul, Nat.reduceSub, Nat.reduceDiv, Nat.reduceLT, Nat.reduceLeDiff, Nat.reduceBEq, ne_eq, not_true_eq_false, not_false_eq_true, reduceCtorEq, if_true, if_false, eq_self, Nat.add_zero, Nat.zero_add, lit, lit_nn, I_nat, I_add, I_mul, I_sub, I_div, inb_t, I_ne, I_nn, nn_I, nn_lt, nn_le, lt_nn, le_nn, I_t, I_f, I_lt_t, I_lt_f, isb_0, isb_1, vz_0, vz_1, nn_nat]
    · have e3 : cnt (fun o => d 0 (30 * s' + o)) 30 = cnt (fun o => c 0 (30 * s' + o)) 30 := cnt_ext fun o ho => (q3 _).2 (by omega)
      rw [e3, ← h s' hs']
      simp (disch := omega) only [ck1, bd1, bx1, bx2, aS_at, iS_at, upd_at, ↓reduceIte, Nat.reduceEqDiff, Nat.reduceAdd, Nat.reduceMul, Nat.reduceSub, Nat.reduceDiv, Nat.reduceLT, Nat.reduceLeDiff, Nat.reduceBEq, ne_eq, not_true_eq_false, not_false_eq_true, reduceCtorEq, if_true, if_false, eq_self, Nat.add_zero, Nat.zero_add, lit, lit_nn, I_nat, I_add, I_mul, I_sub, I_div, inb_t, I_ne, I_nn, nn_I, nn_lt, nn_le, lt_nn, le_nn, I_t, I_f, I_lt_t, I_lt_f, isb_0, isb_1, vz_0, vz_1, nn_nat, e]
      rw [q1]
  · rw [z0]
    exact ⟨fun hh => (q3 x).1 (by omega), fun hh => (q3 x).2 (by omega)⟩

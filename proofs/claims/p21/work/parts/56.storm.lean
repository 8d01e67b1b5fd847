/-! ===== storms end ===== -/
theorem Rel.floods {N : Nat} {cs cs' cw ct cl cb mm : St} (h : Rel N cs cw ct cl cb mm) (h6 : ∀ x, x < 30 → cs' 6 x = cs 6 x) (h7 : cs' 7 = cs 7) (h8 : cs' 8 = cs 8) (h9 : cs' 9 = cs 9) : Rel N cs' cw ct cl cb mm := by
  obtain ⟨p1, p2, p3, p4, p5, p6, p7, p8, p9, c1, c2, c3, c4, c5, c6, c7, c8, c9, c10⟩ := h
  refine ⟨p1, p2, p3, p4, p5, p6, p7, p8, p9, c1, c2, c3, c4, c5, c6, c7, ?_, ⟨fun k hk => ?_, ?_⟩, c10⟩
  · rw [h9]; exact c8
  · rw [h6 k hk]; exact c9.1 k hk
  · rw [h7, h8]; exact c9.2
theorem Rel.flood0 {N : Nat} {cs cw ct cl cb mm : St} (h : Rel N cs cw ct cl cb mm) {k : Nat} (hk : k < 30) : Rel N (aS cs 6 (I k) (I 0)) cw ct cl cb (aS mm 15 (I k) (I 0)) := by
  obtain ⟨p1, p2, p3, p4, p5, p6, p7, p8, p9, c1, c2, c3, c4, c5, c6, c7, c8, c9, c10⟩ := h
  refine ⟨p1, p2, p3, p4, p5, p6, p7, p8, p9, c1, c2, c3, c4, c5, c6, c7, c8, ⟨fun j hj => ?_, c9.2⟩, c10⟩
  simp (disch := omega) only [ck1, bd1, bx1, bx2, aS_at, iS_at, upd_at, ↓reduceIte, Nat.reduceEqDiff, Nat.reduceAdd, Nat.reduceMul, Nat.reduceSub, Nat.reduceDiv, Nat.reduceLT, Nat.reduceLeDiff, Nat.reduceBEq, ne_eq, not_true_eq_false, not_false_eq_true, reduceCtorEq, if_true, if_false, eq_self, Nat.add_zero, Nat.zero_add, lit, lit_nn, I_nat, I_add, I_mul, I_sub, I_div, inb_t, I_ne, I_nn, nn_I, nn_lt, nn_le, lt_nn, le_nn, I_t, I_f, I_lt_t, I_lt_f, isb_0, isb_1, vz_0, vz_1, nn_nat]
  by_cases z : j = k
  · rw [if_pos z, if_pos z]
  · rw [if_neg z, if_neg z]; exact c9.1 j hj
theorem storm_step {N : Nat} {cs cw ct cl cb mm : St} (h : Rel N cs cw ct cl cb mm) {k : Nat} (hk : k < 30) : ∃ ct' mm', Rel N (aS cs 6 (I k) (I 0)) cw ct' cl cb mm' ∧ (∀ q, q ≠ 5 → q ≠ 6 → ct' q = ct q) ∧ (∀ q, q ≠ 10 → q ≠ 11 → q ≠ 12 → q ≠ 15 → mm' q = mm q) ∧ (FWs mm → FWs mm') ∧ (∀ rec, fX3_endStorms_S2 rec cw ct (I k) = rec (ct', I (k + 1))) ∧ (∀ rec, fX6_beats_S107 rec mm (I k) = rec (mm', I (k + 1))) := by
  have h0 := h.flood0 hk
  obtain ⟨n, hn, en⟩ := h.2.2.2.2.2.1.2.1
  have hN := h.2.2.2.2.2.1.1
  have ec : ct 9 0 = I n := (h.2.2.2.2.2.2.2.2.2.2.2.2.2.2.2.2.1.1).trans en
  obtain ⟨e, he, ee⟩ := (h.2.2.2.2.2.2.2.1 k hk).2.2.2.1
  have fb : ∀ q, q ≠ 10 → q ≠ 11 → q ≠ 12 → q ≠ 15 → (aS mm 15 (I k) (I 0)) q = mm q := fun q _ _ _ z => by rw [aS_at, if_neg z]
  have d := h.2.2.2.2.2.2.2.2.2.2.2.2.2.2.2.1 k hk
  rcases shut_eq hN h.2.2.2.2.2.2.2.1 h.2.2.2.2.2.2.2.2.2.2.2.2.2.2.2.1 hk with ⟨s1, s2⟩ | ⟨s1, s2⟩
  · refine ⟨ct, _, h0, fun _ _ _ => rfl, fb, fun z => z, fun rec => ?_, fun rec => ?_⟩
    · simp (disch := omega) only [fX3_endStorms_S2, ck1, bd1, bx1, bx2, aS_at, iS_at, upd_at, ↓reduceIte, Nat.reduceEqDiff, Nat.reduceAdd, Nat.reduceMul, Nat.reduceSub, Nat.reduceDiv, Nat.reduceLT, Nat.reduceLeDiff, Nat.reduceBEq, ne_eq, not_true_eq_false, not_false_eq_true, reduceCtorEq, if_true, if_false, eq_self, Nat.add_zero, Nat.zero_add, lit, lit_nn, I_nat, I_add, I_mul, I_sub, I_div, inb_t, I_ne, I_nn, nn_I, nn_lt, nn_le, lt_nn, le_nn, I_t, I_f, I_lt_t, I_lt_f, isb_0, isb_1, vz_0, vz_1, nn_nat, s2]
    · simp (disch := omega) only [fX6_beats_S107, ck1, bd1, bx1, bx2, aS_at, iS_at, upd_at, ↓reduceIte, Nat.reduceEqDiff, Nat.reduceAdd, Nat.reduceMul, Nat.reduceSub, Nat.reduceDiv, Nat.reduceLT, Nat.reduceLeDiff, Nat.reduceBEq, ne_eq, not_true_eq_false, not_false_eq_true, reduceCtorEq, if_true, if_false, eq_self, Nat.add_zero, Nat.zero_add, lit, lit_nn, I_nat, I_add, I_mul, I_sub, I_div, inb_t, I_ne, I_nn, nn_I, nn_lt, nn_le, lt_nn, le_nn, I_t, I_f, I_lt_t, I_lt_f, isb_0, isb_1, vz_0, vz_1, nn_nat, s1]
  · cases e with
    | zero =>
      have t5 := d.2.2.2.1 s1 ee
      refine ⟨ct, _, h0, fun _ _ _ => rfl, fb, fun z => z, fun rec => ?_, fun rec => ?_⟩
      · simp (disch := omega) only [fX3_endStorms_S2, ck1, bd1, bx1, bx2, aS_at, iS_at, upd_at, ↓reduceIte, Nat.reduceEqDiff, Nat.reduceAdd, Nat.reduceMul, Nat.reduceSub, Nat.reduceDiv, Nat.reduceLT, Nat.reduceLeDiff, Nat.reduceBEq, ne_eq, not_true_eq_false, not_false_eq_true, reduceCtorEq, if_true, if_false, eq_self, Nat.add_zero, Nat.zero_add, lit, lit_nn, I_nat, I_add, I_mul, I_sub, I_div, inb_t, I_ne, I_nn, nn_I, nn_lt, nn_le, lt_nn, le_nn, I_t, I_f, I_lt_t, I_lt_f, isb_0, isb_1, vz_0, vz_1, nn_nat, t5]
      · simp (disch := omega) only [fX6_beats_S107, ck1, bd1, bx1, bx2, aS_at, iS_at, upd_at, ↓reduceIte, Nat.reduceEqDiff, Nat.reduceAdd, Nat.reduceMul, Nat.reduceSub, Nat.reduceDiv, Nat.reduceLT, Nat.reduceLeDiff, Nat.reduceBEq, ne_eq, not_true_eq_false, not_false_eq_true, reduceCtorEq, if_true, if_false, eq_self, Nat.add_zero, Nat.zero_add, lit, lit_nn, I_nat, I_add, I_mul, I_sub, I_div, inb_t, I_ne, I_nn, nn_I, nn_lt, nn_le, lt_nn, le_nn, I_t, I_f, I_lt_t, I_lt_f, isb_0, isb_1, vz_0, vz_1, nn_nat, s1, ee, I01]
    | succ e =>
      have t5 : ct 5 k = I (e + 1) := (d.2.2.2.2.1 s1 (by rw [ee, ne_eq, I_inj (by omega) (by omega)]; omega)).trans ee
      by_cases z : n < e + 1
      · refine ⟨ct, _, h0, fun _ _ _ => rfl, fb, fun z => z, fun rec => ?_, fun rec => ?_⟩
        · simp (disch := omega) only [fX3_endStorms_S2, ck1, bd1, bx1, bx2, aS_at, iS_at, upd_at, ↓reduceIte, Nat.reduceEqDiff, Nat.reduceAdd, Nat.reduceMul, Nat.reduceSub, Nat.reduceDiv, Nat.reduceLT, Nat.reduceLeDiff, Nat.reduceBEq, ne_eq, not_true_eq_false, not_false_eq_true, reduceCtorEq, if_true, if_false, eq_self, Nat.add_zero, Nat.zero_add, lit, lit_nn, I_nat, I_add, I_mul, I_sub, I_div, inb_t, I_ne, I_nn, nn_I, nn_lt, nn_le, lt_nn, le_nn, I_t, I_f, I_lt_t, I_lt_f, isb_0, isb_1, vz_0, vz_1, nn_nat, t5, ec]
        · simp (disch := omega) only [fX6_beats_S107, ck1, bd1, bx1, bx2, aS_at, iS_at, upd_at, ↓reduceIte, Nat.reduceEqDiff, Nat.reduceAdd, Nat.reduceMul, Nat.reduceSub, Nat.reduceDiv, Nat.reduceLT, Nat.reduceLeDiff, Nat.reduceBEq, ne_eq, not_true_eq_false, not_false_eq_true, reduceCtorEq, if_true, if_false, eq_self, Nat.add_zero, Nat.zero_add, lit, lit_nn, I_nat, I_add, I_mul, I_sub, I_div, inb_t, I_ne, I_nn, nn_I, nn_lt, nn_le, lt_nn, le_nn, I_t, I_f, I_lt_t, I_lt_f, isb_0, isb_1, vz_0, vz_1, nn_nat, s1, ee, en, I01]
      · obtain ⟨v, g1, g2, g3⟩ := end_shut h0 hk s1
        refine ⟨_, _, g3, fun q q5 q6 => ?_, fun q y1 y2 y3 y4 => by rw [aS_at, if_neg y3, aS_at, if_neg y2, aS_at, if_neg y1, aS_at, if_neg y4], fun z x hx hn => ?_, fun rec => ?_, fun rec => ?_⟩
        · rw [aS_at, if_neg q6, aS_at, if_neg q5]
        · have u := z x hx hn
          unfold FW at u ⊢
          simp (disch := omega) only [ck1, bd1, bx1, bx2, aS_at, iS_at, upd_at, ↓reduceIte, Nat.reduceEqDiff, Nat.reduceAdd, Nat.reduceMul, Nat.reduceSub, Nat.reduceDiv, Nat.reduceLT, Nat.reduceLeDiff, Nat.reduceBEq, ne_eq, not_true_eq_false, not_false_eq_true, reduceCtorEq, if_true, if_false, eq_self, Nat.add_zero, Nat.zero_add, lit, lit_nn, I_nat, I_add, I_mul, I_sub, I_div, inb_t, I_ne, I_nn, nn_I, nn_lt, nn_le, lt_nn, le_nn, I_t, I_f, I_lt_t, I_lt_f, isb_0, isb_1, vz_0, vz_1, nn_nat]
          by_cases y : x = k
          · subst y
            obtain ⟨r1, r2⟩ := u.2 s1
            simp (disch := omega) only [ck1, bd1, bx1, bx2, aS_at, iS_at, upd_at, ↓reduceIte, Nat.reduceEqDiff, Nat.reduceAdd, Nat.reduceMul, Nat.reduceSub, Nat.reduceDiv, Nat.reduceLT, Nat.reduceLeDiff, Nat.reduceBEq, ne_eq, not_true_eq_false, not_false_eq_true, reduceCtorEq, if_true, if_false, eq_self, Nat.add_zero, Nat.zero_add, lit, lit_nn, I_nat, I_add, I_mul, I_sub, I_div, inb_t, I_ne, I_nn, nn_I, nn_lt, nn_le, lt_nn, le_nn, I_t, I_f, I_lt_t, I_lt_f, isb_0, isb_1, vz_0, vz_1, nn_nat, r1, r2]
            exact ⟨fun _ _ => ⟨fun e => e.elim id id, fun e => absurd e id⟩, fun e => absurd e id⟩
          · simp only [y, ↓reduceIte]
            exact u
        · simp (disch := omega) only [fX3_endStorms_S2, ck1, bd1, bx1, bx2, aS_at, iS_at, upd_at, ↓reduceIte, Nat.reduceEqDiff, Nat.reduceAdd, Nat.reduceMul, Nat.reduceSub, Nat.reduceDiv, Nat.reduceLT, Nat.reduceLeDiff, Nat.reduceBEq, ne_eq, not_true_eq_false, not_false_eq_true, reduceCtorEq, if_true, if_false, eq_self, Nat.add_zero, Nat.zero_add, lit, lit_nn, I_nat, I_add, I_mul, I_sub, I_div, inb_t, I_ne, I_nn, nn_I, nn_lt, nn_le, lt_nn, le_nn, I_t, I_f, I_lt_t, I_lt_f, isb_0, isb_1, vz_0, vz_1, nn_nat, t5, ec, g1]
        · simp (disch := omega) only [fX6_beats_S107, ck1, bd1, bx1, bx2, aS_at, iS_at, upd_at, ↓reduceIte, Nat.reduceEqDiff, Nat.reduceAdd, Nat.reduceMul, Nat.reduceSub, Nat.reduceDiv, Nat.reduceLT, Nat.reduceLeDiff, Nat.reduceBEq, ne_eq, not_true_eq_false, not_false_eq_true, reduceCtorEq, if_true, if_false, eq_self, Nat.add_zero, Nat.zero_add, lit, lit_nn, I_nat, I_add, I_mul, I_sub, I_div, inb_t, I_ne, I_nn, nn_I, nn_lt, nn_le, lt_nn, le_nn, I_t, I_f, I_lt_t, I_lt_f, isb_0, isb_1, vz_0, vz_1, nn_nat, s1, ee, en, I01, g2]
theorem storm_both {N : Nat} {cs cw ct cl cb mm : St} (h : Rel N cs cw ct cl cb mm) : ∃ ct' mm' cs', Rel N cs' cw ct' cl cb mm' ∧ (∀ q, q ≠ 6 → cs' q = cs q) ∧ (∀ x, x < 30 → cs' 6 x = I 0) ∧ (∀ q, q ≠ 5 → q ≠ 6 → ct' q = ct q) ∧ (∀ q, q ≠ 10 → q ≠ 11 → q ≠ 12 → q ≠ 15 → mm' q = mm q) ∧ (FWs mm → FWs mm') ∧ fX3_endStorms ct cw = some ct' ∧ fX6_beats_J105 mm = some mm' := by
  obtain ⟨s, ⟨u1, u2, u3, u4, u5, u6⟩, h1, h2⟩ := loop_two (ι := Unit) (ι' := Unit) (σ := St × St × St) (step := fun _ k a => fX3_endStorms_S2 k cw (a.1) (a.2)) (step' := fun _ k a => fX6_beats_S107 k (a.1) (a.2)) (fun t s => (s.1, I t)) (fun t s => (s.2.1, I t)) 30 (fun t s => Rel N s.2.2 cw s.1 cl cb s.2.1 ∧ (∀ q, q ≠ 6 → s.2.2 q = cs q) ∧ (∀ x, x < t → s.2.2 6 x = I 0) ∧ (∀ q, q ≠ 5 → q ≠ 6 → s.1 q = ct q) ∧ (∀ q, q ≠ 10 → q ≠ 11 → q ≠ 12 → q ≠ 15 → s.2.1 q = mm q) ∧ (FWs mm → FWs s.2.1)) (fun _ s => some s.1) (fun _ s => some s.2.1)
    (by
      intro t s ht ⟨u1, u2, u3, u4, u5, u6⟩
      obtain ⟨c', m', g1, g2, g3, g6, g4, g5⟩ := storm_step u1 ht
      refine ⟨(c', m', aS s.2.2 6 (I t) (I 0)), ⟨g1, fun q hq => ?_, fun x hx => ?_, fun q a b => (g2 q a b).trans (u4 q a b), fun q a b c d => (g3 q a b c d).trans (u5 q a b c d), fun z => g6 (u6 z)⟩, fun _ => g4, fun _ => g5⟩
      · show aS s.2.2 6 (I t) (I 0) q = _
        rw [aS_at, if_neg hq]; exact u2 q hq
      · simp (disch := omega) only [ck1, bd1, bx1, bx2, aS_at, iS_at, upd_at, ↓reduceIte, Nat.reduceEqDiff, Nat.reduceAdd, Nat.reduceMul, Nat.reduceSub, Nat.reduceDiv, Nat.reduceLT, Nat.reduceLeDiff, Nat.reduceBEq, ne_eq, not_true_eq_false, not_false_eq_true, reduceCtorEq, if_true, if_false, eq_self, Nat.add_zero, Nat.zero_add, lit, lit_nn, I_nat, I_add, I_mul, I_sub, I_div, inb_t, I_ne, I_nn, nn_I, nn_lt, nn_le, lt_nn, le_nn, I_t, I_f, I_lt_t, I_lt_f, isb_0, isb_1, vz_0, vz_1, nn_nat]
        by_cases z : x = t
        · rw [if_pos z]
        · rw [if_neg z]; exact u3 x (by omega))
    (by
      intro s _
      refine ⟨fun _ rec => ?_, fun _ rec => ?_⟩
      · simp (disch := omega) only [fX3_endStorms_S2, ck1, bd1, bx1, bx2, aS_at, iS_at, upd_at, ↓reduceIte, Nat.reduceEqDiff, Nat.reduceAdd, Nat.reduceMul, Nat.reduceSub, Nat.reduceDiv, Nat.reduceLT, Nat.reduceLeDiff, Nat.reduceBEq, ne_eq, not_true_eq_false, not_false_eq_true, reduceCtorEq, if_true, if_false, eq_self, Nat.add_zero, Nat.zero_add, lit, lit_nn, I_nat, I_add, I_mul, I_sub, I_div, inb_t, I_ne, I_nn, nn_I, nn_lt, nn_le, lt_nn, le_nn, I_t, I_f, I_lt_t, I_lt_f, isb_0, isb_1, vz_0, vz_1, nn_nat]
      · simp (disch := omega) only [fX6_beats_S107, ck1, bd1, bx1, bx2, aS_at, iS_at, upd_at, ↓reduceIte, Nat.reduceEqDiff, Nat.reduceAdd, Nat.reduceMul, Nat.reduceSub, Nat.reduceDiv, Nat.reduceLT, Nat.reduceLeDiff, Nat.reduceBEq, ne_eq, not_true_eq_false, not_false_eq_true, reduceCtorEq, if_true, if_false, eq_self, Nat.add_zero, Nat.zero_add, lit, lit_nn, I_nat, I_add, I_mul, I_sub, I_div, inb_t, I_ne, I_nn, nn_I, nn_lt, nn_le, lt_nn, le_nn, I_t, I_f, I_lt_t, I_lt_f, isb_0, isb_1, vz_0, vz_1, nn_nat])
    30 0 (ct, mm, cs) 1000 (by omega) (by omega) ⟨h, fun _ _ => rfl, fun x hx => by omega, fun _ _ _ => rfl, fun _ _ _ _ _ => rfl, fun z => z⟩
  exact ⟨s.1, s.2.1, s.2.2, u1, u2, u3, u4, u5, u6, h1 (), h2 ()⟩

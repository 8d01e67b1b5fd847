theorem portOf_eq {N : Nat} {cs cw ct cl cb mm : St} (h : Rel N cs cw ct cl cb mm) {g : Nat} (hg : g < 10) : fX6_portOf mm (I g) = some (cw 4 g) := by
  obtain ⟨Q, eQ⟩ : ∃ Q : Nat → Int32 → Prop, Q = fun k r => (r = nn ∧ ∀ j, j < k → mm 5 j ≠ I g) ∨ (∃ j, j < k ∧ mm 5 j = I g ∧ r = I j) := ⟨_, rfl⟩
  have hb : ∀ k r, k < 30 → Q k r → ∃ r', Q (k + 1) r' ∧ ∀ rec, fX6_portOf_S4 rec mm (I g) r (I k) = rec (r', I (k + 1)) := by
    intro k r hk hQ
    rw [eQ] at hQ
    by_cases d : mm 5 k = I g
    · refine ⟨I k, ?_, fun rec => ?_⟩
      · rw [eQ]; exact Or.inr ⟨k, by omega, d, rfl⟩
      · simp (disch := omega) only [fX6_portOf_S4, ck1, bd1, bx1, bx2, aS_at, iS_at, upd_at, ↓reduceIte, Nat.reduceEqDiff, Nat.reduceAdd, Nat.reduceMul, Nat.reduceSub, Nat.reduceDiv, Nat.reduceLT, Nat.reduceLeDiff, Nat.reduceBEq, ne_eq, not_true_eq_false, not_false_eq_true, reduceCtorEq, if_true, if_false, eq_self, Nat.add_zero, Nat.zero_add, lit, lit_nn, I_nat, I_add, I_mul, I_sub, I_div, inb_t, I_ne, I_nn, nn_I, nn_lt, nn_le, lt_nn, le_nn, I_t, I_f, I_lt_t, I_lt_f, isb_0, isb_1, vz_0, vz_1, nn_nat, d]
    · refine ⟨r, ?_, fun rec => ?_⟩
      · rw [eQ]
        rcases hQ with ⟨e, f⟩ | ⟨j, hj, e, f⟩
        · refine Or.inl ⟨e, fun j hj => ?_⟩
          by_cases z : j = k
          · subst z; exact d
          · exact f j (by omega)
        · exact Or.inr ⟨j, by omega, e, f⟩
      · simp (disch := omega) only [fX6_portOf_S4, ck1, bd1, bx1, bx2, aS_at, iS_at, upd_at, ↓reduceIte, Nat.reduceEqDiff, Nat.reduceAdd, Nat.reduceMul, Nat.reduceSub, Nat.reduceDiv, Nat.reduceLT, Nat.reduceLeDiff, Nat.reduceBEq, ne_eq, not_true_eq_false, not_false_eq_true, reduceCtorEq, if_true, if_false, eq_self, Nat.add_zero, Nat.zero_add, lit, lit_nn, I_nat, I_add, I_mul, I_sub, I_div, inb_t, I_ne, I_nn, nn_I, nn_lt, nn_le, lt_nn, le_nn, I_t, I_f, I_lt_t, I_lt_f, isb_0, isb_1, vz_0, vz_1, nn_nat, d]
  have he : ∀ r, Q 30 r → ∀ rec, fX6_portOf_S4 rec mm (I g) r (I 30) = some r := by
    intro r _ rec
    simp (disch := omega) only [fX6_portOf_S4, ck1, bd1, bx1, bx2, aS_at, iS_at, upd_at, ↓reduceIte, Nat.reduceEqDiff, Nat.reduceAdd, Nat.reduceMul, Nat.reduceSub, Nat.reduceDiv, Nat.reduceLT, Nat.reduceLeDiff, Nat.reduceBEq, ne_eq, not_true_eq_false, not_false_eq_true, reduceCtorEq, if_true, if_false, eq_self, Nat.add_zero, Nat.zero_add, lit, lit_nn, I_nat, I_add, I_mul, I_sub, I_div, inb_t, I_ne, I_nn, nn_I, nn_lt, nn_le, lt_nn, le_nn, I_t, I_f, I_lt_t, I_lt_f, isb_0, isb_1, vz_0, vz_1, nn_nat]
  obtain ⟨r, hQ, hl⟩ := loop_up (step := fun k a => fX6_portOf_S4 k mm (I g) (a.1) (a.2)) (fun k (r : Int32) => (r, I k)) 30 Q (fun r => some r) hb he 30 0 nn 1000 (by omega) (by omega) (by rw [eQ]; exact Or.inl ⟨rfl, fun j hj => by omega⟩)
  have e0 : fX6_portOf mm (I g) = some r := by
    rw [← hl]
    simp (disch := omega) only [fX6_portOf, fX6_portOf_L4, ck1, bd1, bx1, bx2, aS_at, iS_at, upd_at, ↓reduceIte, Nat.reduceEqDiff, Nat.reduceAdd, Nat.reduceMul, Nat.reduceSub, Nat.reduceDiv, Nat.reduceLT, Nat.reduceLeDiff, Nat.reduceBEq, ne_eq, not_true_eq_false, not_false_eq_true, reduceCtorEq, if_true, if_false, eq_self, Nat.add_zero, Nat.zero_add, lit, lit_nn, I_nat, I_add, I_mul, I_sub, I_div, inb_t, I_ne, I_nn, nn_I, nn_lt, nn_le, lt_nn, le_nn, I_t, I_f, I_lt_t, I_lt_f, isb_0, isb_1, vz_0, vz_1, nn_nat]
  rw [e0]
  rw [eQ] at hQ
  congr 1
  rcases h.2.2.2.2.2.2.2.2.2.2.2.1 g hg with ⟨a1, a2⟩ | ⟨i, hi, a1, a2⟩
  · rcases hQ with ⟨e, f⟩ | ⟨j, hj, e, f⟩
    · rw [e, a1]
    · exact absurd e (a2 j hj)
  · rcases hQ with ⟨e, f⟩ | ⟨j, hj, e, f⟩
    · exact absurd a2 (f i hi)
    · have q := h.2.2.1.2 j i hj hi (e.trans a2.symm) (by rw [e, ne_eq, I_nn (by omega)]; exact fun h => h)
      rw [f, a1, q]
theorem out_tag {N : Nat} {cs cw ct cl cb mm : St} (h : Rel N cs cw ct cl cb mm) {k l : Nat} (hk : k < 30) (h1 : 1 ≤ l) (hl : l ≤ 3) (hc : fX6_hasLane mm (I k) (I l) = some (I 1)) : ∃ o, 1 ≤ o ∧ o ≤ 3 ∧ mm 9 k = I o ∧ fX0_tagOut cl (I k) (I l) = some (I (if l = o then 0 else l)) ∧ ((mm 7 k = I 0 ∧ l = o) ∨ mm 7 k = I 1) := by
  obtain ⟨o, ho1, ho3, eo, e⟩ := untag h hk hl
  refine ⟨o, ho1, ho3, eo, e, ?_⟩
  rcases isI2 (h.2.2.2.2.1 k hk).1 with t | t
  · refine Or.inl ⟨t, ?_⟩
    apply Classical.byContradiction
    intro z
    have z' : ¬ o = l := fun w => z w.symm
    simp (disch := omega) only [fX6_hasLane, ck1, bd1, bx1, bx2, aS_at, iS_at, upd_at, ↓reduceIte, Nat.reduceEqDiff, Nat.reduceAdd, Nat.reduceMul, Nat.reduceSub, Nat.reduceDiv, Nat.reduceLT, Nat.reduceLeDiff, Nat.reduceBEq, ne_eq, not_true_eq_false, not_false_eq_true, reduceCtorEq, if_true, if_false, eq_self, Nat.add_zero, Nat.zero_add, lit, lit_nn, I_nat, I_add, I_mul, I_sub, I_div, inb_t, I_ne, I_nn, nn_I, nn_lt, nn_le, lt_nn, le_nn, I_t, I_f, I_lt_t, I_lt_f, isb_0, isb_1, vz_0, vz_1, nn_nat, t, eo, I_inj, z', Option.some.injEq] at hc
  · exact Or.inr t
set_option maxHeartbeats 1000000 in
theorem walk_step {N : Nat} {cs cw ct cl cb mm : St} (h : Rel N cs cw ct cl cb mm) {g x k t : Nat} (hg : g < 10) (hx : x < 13) (hk : k < 30) (ht : t ≤ 3) :
    (∃ r, (∀ rec, fX5_walk_S75 rec cw ct cl cb (I g) (I k) (I t) (I x) = some (.inl r)) ∧ (∀ rec, fX6_walk_S87 rec mm (I g) (I k) (I t) (I x) = some (r, mm))) ∨
    (∃ k' t', k' < 30 ∧ t' ≤ 3 ∧ (∀ rec, fX5_walk_S75 rec cw ct cl cb (I g) (I k) (I t) (I x) = rec (I k', I t', I (x + 1))) ∧ (∀ rec, fX6_walk_S87 rec mm (I g) (I k) (I t) (I x) = rec (I k', I t', I (x + 1)))) := by
  obtain ⟨l, hl, l1, l2⟩ := lane_both h hk ht
  by_cases l0 : l = 0
  · subst l0
    refine Or.inl ⟨nn, fun rec => ?_, fun rec => ?_⟩
    · simp (disch := omega) only [fX5_walk_S75, fX5_walk_J110, ck1, bd1, bx1, bx2, aS_at, iS_at, upd_at, ↓reduceIte, Nat.reduceEqDiff, Nat.reduceAdd, Nat.reduceMul, Nat.reduceSub, Nat.reduceDiv, Nat.reduceLT, Nat.reduceLeDiff, Nat.reduceBEq, ne_eq, not_true_eq_false, not_false_eq_true, reduceCtorEq, if_true, if_false, eq_self, Nat.add_zero, Nat.zero_add, lit, lit_nn, I_nat, I_add, I_mul, I_sub, I_div, inb_t, I_ne, I_nn, nn_I, nn_lt, nn_le, lt_nn, le_nn, I_t, I_f, I_lt_t, I_lt_f, isb_0, isb_1, vz_0, vz_1, nn_nat, l1]
    · simp (disch := omega) only [fX6_walk_S87, fX6_walk_J124, fX6_walk_J151, ck1, bd1, bx1, bx2, aS_at, iS_at, upd_at, ↓reduceIte, Nat.reduceEqDiff, Nat.reduceAdd, Nat.reduceMul, Nat.reduceSub, Nat.reduceDiv, Nat.reduceLT, Nat.reduceLeDiff, Nat.reduceBEq, ne_eq, not_true_eq_false, not_false_eq_true, reduceCtorEq, if_true, if_false, eq_self, Nat.add_zero, Nat.zero_add, lit, lit_nn, I_nat, I_add, I_mul, I_sub, I_div, inb_t, I_ne, I_nn, nn_I, nn_lt, nn_le, lt_nn, le_nn, I_t, I_f, I_lt_t, I_lt_f, isb_0, isb_1, vz_0, vz_1, nn_nat, l2]
  · obtain ⟨o, eo⟩ : ∃ o, o = (l - 1) * 10 + g := ⟨_, rfl⟩
    have eo1 : o / 10 + 1 = l := by omega
    have eo2 : o % 10 = g := by omega
    have ho : o < 30 := by omega
    have hs : k / 5 < 6 := by omega
    obtain ⟨q1, q2⟩ := port_ent h.2.2.2.2.2.2.2.2.2.2.2.2.2.2.2.2.2.2 hs ho
    rw [eo1, eo2] at q1 q2
    rcases q2 with ⟨z, hf⟩ | ⟨i, p, hi, hp, hf, z1, z2⟩
    · rw [z] at q1
      refine Or.inl ⟨nn, fun rec => ?_, fun rec => ?_⟩
      · simp (disch := omega) only [fX5_walk_S75, fX5_walk_J110, fX5_wayTold, ck1, bd1, bx1, bx2, aS_at, iS_at, upd_at, ↓reduceIte, Nat.reduceEqDiff, Nat.reduceAdd, Nat.reduceMul, Nat.reduceSub, Nat.reduceDiv, Nat.reduceLT, Nat.reduceLeDiff, Nat.reduceBEq, ne_eq, not_true_eq_false, not_false_eq_true, reduceCtorEq, if_true, if_false, eq_self, Nat.add_zero, Nat.zero_add, lit, lit_nn, I_nat, I_add, I_mul, I_sub, I_div, inb_t, I_ne, I_nn, nn_I, nn_lt, nn_le, lt_nn, le_nn, I_t, I_f, I_lt_t, I_lt_f, isb_0, isb_1, vz_0, vz_1, nn_nat, l1, I_inj, l0, q1]
      · simp (disch := omega) only [fX6_walk_S87, fX6_walk_J124, fX6_walk_J151, ck1, bd1, bx1, bx2, aS_at, iS_at, upd_at, ↓reduceIte, Nat.reduceEqDiff, Nat.reduceAdd, Nat.reduceMul, Nat.reduceSub, Nat.reduceDiv, Nat.reduceLT, Nat.reduceLeDiff, Nat.reduceBEq, ne_eq, not_true_eq_false, not_false_eq_true, reduceCtorEq, if_true, if_false, eq_self, Nat.add_zero, Nat.zero_add, lit, lit_nn, I_nat, I_add, I_mul, I_sub, I_div, inb_t, I_ne, I_nn, nn_I, nn_lt, nn_le, lt_nn, le_nn, I_t, I_f, I_lt_t, I_lt_f, isb_0, isb_1, vz_0, vz_1, nn_nat, l2, I_inj, l0, hf]
    · rw [z2] at q1
      obtain ⟨j, ej⟩ : ∃ j, j = k / 5 * 5 + p := ⟨_, rfl⟩
      have hj : j < 30 := by omega
      have ej1 : k / 5 * 5 + p = j := ej.symm
      have ej2 : k - (k - k / 5 * 5) + p = j := by omega
      have t6 := (h.2.2.2.2.2.2.2.2.2.2.2.2.2.2.2.1 j hj).1
      have hw := h.2.2.2.2.2.2.2.2.2.2.1 j hj
      obtain ⟨b, hb2, b1, b2⟩ := carry_both h.2.2.2.2.1 h.2.2.2.2.2.2.2.2.2.2.2.2.2.1 hj (show 1 ≤ l by omega) hl
      rcases isI2 (h.2.2.2.2.2.2.2.1 j hj).2.1 with op | op
      · rw [op] at t6
        refine Or.inl ⟨nn, fun rec => ?_, fun rec => ?_⟩
        · simp (disch := omega) only [fX5_walk_S75, fX5_walk_J110, fX5_wayTold, fX5_spotOf, ck1, bd1, bx1, bx2, aS_at, iS_at, upd_at, ↓reduceIte, Nat.reduceEqDiff, Nat.reduceAdd, Nat.reduceMul, Nat.reduceSub, Nat.reduceDiv, Nat.reduceLT, Nat.reduceLeDiff, Nat.reduceBEq, ne_eq, not_true_eq_false, not_false_eq_true, reduceCtorEq, if_true, if_false, eq_self, Nat.add_zero, Nat.zero_add, lit, lit_nn, I_nat, I_add, I_mul, I_sub, I_div, inb_t, I_ne, I_nn, nn_I, nn_lt, nn_le, lt_nn, le_nn, I_t, I_f, I_lt_t, I_lt_f, isb_0, isb_1, vz_0, vz_1, nn_nat, l1, I_inj, l0, q1, ej1, t6]
        · simp (disch := omega) only [fX6_walk_S87, fX6_walk_J124, fX6_walk_J151, ck1, bd1, bx1, bx2, aS_at, iS_at, upd_at, ↓reduceIte, Nat.reduceEqDiff, Nat.reduceAdd, Nat.reduceMul, Nat.reduceSub, Nat.reduceDiv, Nat.reduceLT, Nat.reduceLeDiff, Nat.reduceBEq, ne_eq, not_true_eq_false, not_false_eq_true, reduceCtorEq, if_true, if_false, eq_self, Nat.add_zero, Nat.zero_add, lit, lit_nn, I_nat, I_add, I_mul, I_sub, I_div, inb_t, I_ne, I_nn, nn_I, nn_lt, nn_le, lt_nn, le_nn, I_t, I_f, I_lt_t, I_lt_f, isb_0, isb_1, vz_0, vz_1, nn_nat, l2, I_inj, l0, hf, z1, ej2, op]
      · rw [op] at t6
        rcases (show b = 0 ∨ b = 1 by omega) with rfl | rfl
        · refine Or.inl ⟨nn, fun rec => ?_, fun rec => ?_⟩
          · simp (disch := omega) only [fX5_walk_S75, fX5_walk_J110, fX5_wayTold, fX5_spotOf, ck1, bd1, bx1, bx2, aS_at, iS_at, upd_at, ↓reduceIte, Nat.reduceEqDiff, Nat.reduceAdd, Nat.reduceMul, Nat.reduceSub, Nat.reduceDiv, Nat.reduceLT, Nat.reduceLeDiff, Nat.reduceBEq, ne_eq, not_true_eq_false, not_false_eq_true, reduceCtorEq, if_true, if_false, eq_self, Nat.add_zero, Nat.zero_add, lit, lit_nn, I_nat, I_add, I_mul, I_sub, I_div, inb_t, I_ne, I_nn, nn_I, nn_lt, nn_le, lt_nn, le_nn, I_t, I_f, I_lt_t, I_lt_f, isb_0, isb_1, vz_0, vz_1, nn_nat, l1, I_inj, l0, q1, ej1, t6, b1]
          · simp (disch := omega) only [fX6_walk_S87, fX6_walk_J124, fX6_walk_J151, ck1, bd1, bx1, bx2, aS_at, iS_at, upd_at, ↓reduceIte, Nat.reduceEqDiff, Nat.reduceAdd, Nat.reduceMul, Nat.reduceSub, Nat.reduceDiv, Nat.reduceLT, Nat.reduceLeDiff, Nat.reduceBEq, ne_eq, not_true_eq_false, not_false_eq_true, reduceCtorEq, if_true, if_false, eq_self, Nat.add_zero, Nat.zero_add, lit, lit_nn, I_nat, I_add, I_mul, I_sub, I_div, inb_t, I_ne, I_nn, nn_I, nn_lt, nn_le, lt_nn, le_nn, I_t, I_f, I_lt_t, I_lt_f, isb_0, isb_1, vz_0, vz_1, nn_nat, l2, I_inj, l0, hf, z1, ej2, op, b2]
        · obtain ⟨o2, ho1, ho3, e9, etag, hmode⟩ := out_tag h hj (show 1 ≤ l by omega) hl b2
          by_cases e5 : mm 5 j = nn
          · rcases h.2.1 j hj with w3 | ⟨j', c, hj', a2, a3, a4, -⟩
            · have := ((h.2.2.2.2.2.2.2.1 j hj).2.2.2.2.2.1 op).2
              rcases this with w | w
              · exact absurd w3 w
              · exact absurd e5 w
            · have c0 : cw 0 j = I j' := hw.1.trans a2
              refine Or.inr ⟨j', if l = o2 then 0 else l, hj', by split; omega; exact hl, fun rec => ?_, fun rec => ?_⟩
              · simp (disch := omega) only [fX5_walk_S75, fX5_walk_J110, fX5_wayTold, fX5_spotOf, ck1, bd1, bx1, bx2, aS_at, iS_at, upd_at, ↓reduceIte, Nat.reduceEqDiff, Nat.reduceAdd, Nat.reduceMul, Nat.reduceSub, Nat.reduceDiv, Nat.reduceLT, Nat.reduceLeDiff, Nat.reduceBEq, ne_eq, not_true_eq_false, not_false_eq_true, reduceCtorEq, if_true, if_false, eq_self, Nat.add_zero, Nat.zero_add, lit, lit_nn, I_nat, I_add, I_mul, I_sub, I_div, inb_t, I_ne, I_nn, nn_I, nn_lt, nn_le, lt_nn, le_nn, I_t, I_f, I_lt_t, I_lt_f, isb_0, isb_1, vz_0, vz_1, nn_nat, l1, I_inj, l0, q1, ej1, t6, b1, c0, etag]
              · rcases hmode with ⟨m0, ml⟩ | m1
                · simp (disch := omega) only [fX6_walk_S87, fX6_walk_J124, fX6_walk_J151, fX6_walk_J238, fX6_walk_J239, ck1, bd1, bx1, bx2, aS_at, iS_at, upd_at, ↓reduceIte, Nat.reduceEqDiff, Nat.reduceAdd, Nat.reduceMul, Nat.reduceSub, Nat.reduceDiv, Nat.reduceLT, Nat.reduceLeDiff, Nat.reduceBEq, ne_eq, not_true_eq_false, not_false_eq_true, reduceCtorEq, if_true, if_false, eq_self, Nat.add_zero, Nat.zero_add, lit, lit_nn, I_nat, I_add, I_mul, I_sub, I_div, inb_t, I_ne, I_nn, nn_I, nn_lt, nn_le, lt_nn, le_nn, I_t, I_f, I_lt_t, I_lt_f, isb_0, isb_1, vz_0, vz_1, nn_nat, l2, I_inj, l0, hf, z1, ej2, op, b2, e5, m0, a2, eq_true ml]
                · by_cases ml : l = o2
                  · simp (disch := omega) only [fX6_walk_S87, fX6_walk_J124, fX6_walk_J151, fX6_walk_J238, fX6_walk_J239, ck1, bd1, bx1, bx2, aS_at, iS_at, upd_at, ↓reduceIte, Nat.reduceEqDiff, Nat.reduceAdd, Nat.reduceMul, Nat.reduceSub, Nat.reduceDiv, Nat.reduceLT, Nat.reduceLeDiff, Nat.reduceBEq, ne_eq, not_true_eq_false, not_false_eq_true, reduceCtorEq, if_true, if_false, eq_self, Nat.add_zero, Nat.zero_add, lit, lit_nn, I_nat, I_add, I_mul, I_sub, I_div, inb_t, I_ne, I_nn, nn_I, nn_lt, nn_le, lt_nn, le_nn, I_t, I_f, I_lt_t, I_lt_f, isb_0, isb_1, vz_0, vz_1, nn_nat, l2, I_inj, l0, hf, z1, ej2, op, b2, e5, m1, a2, eq_true ml, e9]
                  · simp (disch := omega) only [fX6_walk_S87, fX6_walk_J124, fX6_walk_J151, fX6_walk_J238, fX6_walk_J239, ck1, bd1, bx1, bx2, aS_at, iS_at, upd_at, ↓reduceIte, Nat.reduceEqDiff, Nat.reduceAdd, Nat.reduceMul, Nat.reduceSub, Nat.reduceDiv, Nat.reduceLT, Nat.reduceLeDiff, Nat.reduceBEq, ne_eq, not_true_eq_false, not_false_eq_true, reduceCtorEq, if_true, if_false, eq_self, Nat.add_zero, Nat.zero_add, lit, lit_nn, I_nat, I_add, I_mul, I_sub, I_div, inb_t, I_ne, I_nn, nn_I, nn_lt, nn_le, lt_nn, le_nn, I_t, I_f, I_lt_t, I_lt_f, isb_0, isb_1, vz_0, vz_1, nn_nat, l2, I_inj, l0, hf, z1, ej2, op, b2, e5, m1, a2, ml, e9]
          · rcases h.2.2.1.1 j hj with w | ⟨w, -⟩
            · exact absurd w e5
            · have c0 : cw 0 j = nn := hw.1.trans w
              have c2 : cw 2 j = mm 5 j := hw.2.2.1
              by_cases e6 : mm 5 j = I g
              · refine Or.inl ⟨I x, fun rec => ?_, fun rec => ?_⟩
                · simp (disch := omega) only [fX5_walk_S75, fX5_walk_J110, fX5_walk_J134, fX5_wayTold, fX5_spotOf, ck1, bd1, bx1, bx2, aS_at, iS_at, upd_at, ↓reduceIte, Nat.reduceEqDiff, Nat.reduceAdd, Nat.reduceMul, Nat.reduceSub, Nat.reduceDiv, Nat.reduceLT, Nat.reduceLeDiff, Nat.reduceBEq, ne_eq, not_true_eq_false, not_false_eq_true, reduceCtorEq, if_true, if_false, eq_self, Nat.add_zero, Nat.zero_add, lit, lit_nn, I_nat, I_add, I_mul, I_sub, I_div, inb_t, I_ne, I_nn, nn_I, nn_lt, nn_le, lt_nn, le_nn, I_t, I_f, I_lt_t, I_lt_f, isb_0, isb_1, vz_0, vz_1, nn_nat, l1, I_inj, l0, q1, ej1, t6, b1, c0, c2, e6]
                · simp (disch := omega) only [fX6_walk_S87, fX6_walk_J124, fX6_walk_J151, fX6_walk_J193, ck1, bd1, bx1, bx2, aS_at, iS_at, upd_at, ↓reduceIte, Nat.reduceEqDiff, Nat.reduceAdd, Nat.reduceMul, Nat.reduceSub, Nat.reduceDiv, Nat.reduceLT, Nat.reduceLeDiff, Nat.reduceBEq, ne_eq, not_true_eq_false, not_false_eq_true, reduceCtorEq, if_true, if_false, eq_self, Nat.add_zero, Nat.zero_add, lit, lit_nn, I_nat, I_add, I_mul, I_sub, I_div, inb_t, I_ne, I_nn, nn_I, nn_lt, nn_le, lt_nn, le_nn, I_t, I_f, I_lt_t, I_lt_f, isb_0, isb_1, vz_0, vz_1, nn_nat, l2, I_inj, l0, hf, z1, ej2, op, b2, e6]
              · refine Or.inl ⟨nn, fun rec => ?_, fun rec => ?_⟩
                · simp (disch := omega) only [fX5_walk_S75, fX5_walk_J110, fX5_walk_J134, fX5_wayTold, fX5_spotOf, ck1, bd1, bx1, bx2, aS_at, iS_at, upd_at, ↓reduceIte, Nat.reduceEqDiff, Nat.reduceAdd, Nat.reduceMul, Nat.reduceSub, Nat.reduceDiv, Nat.reduceLT, Nat.reduceLeDiff, Nat.reduceBEq, ne_eq, not_true_eq_false, not_false_eq_true, reduceCtorEq, if_true, if_false, eq_self, Nat.add_zero, Nat.zero_add, lit, lit_nn, I_nat, I_add, I_mul, I_sub, I_div, inb_t, I_ne, I_nn, nn_I, nn_lt, nn_le, lt_nn, le_nn, I_t, I_f, I_lt_t, I_lt_f, isb_0, isb_1, vz_0, vz_1, nn_nat, l1, I_inj, l0, q1, ej1, t6, b1, c0, c2, e6]
                · simp (disch := omega) only [fX6_walk_S87, fX6_walk_J124, fX6_walk_J151, fX6_walk_J193, ck1, bd1, bx1, bx2, aS_at, iS_at, upd_at, ↓reduceIte, Nat.reduceEqDiff, Nat.reduceAdd, Nat.reduceMul, Nat.reduceSub, Nat.reduceDiv, Nat.reduceLT, Nat.reduceLeDiff, Nat.reduceBEq, ne_eq, not_true_eq_false, not_false_eq_true, reduceCtorEq, if_true, if_false, eq_self, Nat.add_zero, Nat.zero_add, lit, lit_nn, I_nat, I_add, I_mul, I_sub, I_div, inb_t, I_ne, I_nn, nn_I, nn_lt, nn_le, lt_nn, le_nn, I_t, I_f, I_lt_t, I_lt_f, isb_0, isb_1, vz_0, vz_1, nn_nat, l2, I_inj, l0, hf, z1, ej2, op, b2, e5, e6]
theorem loopN_s {α β : Type} (step : (α → Option β) → α → Option β) (n : Nat) (a : α) : loopN step (n + 1) a = step (loopN step n) a := rfl
theorem walk_loop {N : Nat} {cs cw ct cl cb mm : St} (h : Rel N cs cw ct cl cb mm) {g : Nat} (hg : g < 10) : ∀ d x k t n, x + d = 13 → d < n → k < 30 → t ≤ 3 → ∃ r, loopN (fun k' a => fX5_walk_S75 k' cw ct cl cb (I g) (a.1) (a.2.1) (a.2.2)) n (I k, I t, I x) = some (.inl r) ∧ loopN (fun k' a => fX6_walk_S87 k' mm (I g) (a.1) (a.2.1) (a.2.2)) n (I k, I t, I x) = some (r, mm) := by
  intro d
  induction d with
  | zero =>
    intro x k t n hx hn hk ht
    obtain ⟨n, rfl⟩ : ∃ m, n = m + 1 := ⟨n - 1, by omega⟩
    have z1 : ∀ rec, fX5_walk_S75 rec cw ct cl cb (I g) (I k) (I t) (I x) = some (.inl nn) := by
      intro rec
      simp (disch := omega) only [fX5_walk_S75, ck1, bd1, bx1, bx2, aS_at, iS_at, upd_at, ↓reduceIte, Nat.reduceEqDiff, Nat.reduceAdd, Nat.reduceMul, Nat.reduceSub, Nat.reduceDiv, Nat.reduceLT, Nat.reduceLeDiff, Nat.reduceBEq, ne_eq, not_true_eq_false, not_false_eq_true, reduceCtorEq, if_true, if_false, eq_self, Nat.add_zero, Nat.zero_add, lit, lit_nn, I_nat, I_add, I_mul, I_sub, I_div, inb_t, I_ne, I_nn, nn_I, nn_lt, nn_le, lt_nn, le_nn, I_t, I_f, I_lt_t, I_lt_f, isb_0, isb_1, vz_0, vz_1, nn_nat]
    have z2 : ∀ rec, fX6_walk_S87 rec mm (I g) (I k) (I t) (I x) = some (nn, mm) := by
      intro rec
      simp (disch := omega) only [fX6_walk_S87, ck1, bd1, bx1, bx2, aS_at, iS_at, upd_at, ↓reduceIte, Nat.reduceEqDiff, Nat.reduceAdd, Nat.reduceMul, Nat.reduceSub, Nat.reduceDiv, Nat.reduceLT, Nat.reduceLeDiff, Nat.reduceBEq, ne_eq, not_true_eq_false, not_false_eq_true, reduceCtorEq, if_true, if_false, eq_self, Nat.add_zero, Nat.zero_add, lit, lit_nn, I_nat, I_add, I_mul, I_sub, I_div, inb_t, I_ne, I_nn, nn_I, nn_lt, nn_le, lt_nn, le_nn, I_t, I_f, I_lt_t, I_lt_f, isb_0, isb_1, vz_0, vz_1, nn_nat]
    exact ⟨nn, (loopN_s _ _ _).trans (z1 _), (loopN_s _ _ _).trans (z2 _)⟩
  | succ d ih =>
    intro x k t n hx hn hk ht
    obtain ⟨n, rfl⟩ : ∃ m, n = m + 1 := ⟨n - 1, by omega⟩
    rcases walk_step h (x := x) hg (by omega) hk ht with ⟨r, z1, z2⟩ | ⟨k', t', hk', ht', z1, z2⟩
    · exact ⟨r, (loopN_s _ _ _).trans (z1 _), (loopN_s _ _ _).trans (z2 _)⟩
    · obtain ⟨r, r1, r2⟩ := ih (x + 1) k' t' n (by omega) (by omega) hk' ht'
      exact ⟨r, ((loopN_s _ _ _).trans (z1 _)).trans r1, ((loopN_s _ _ _).trans (z2 _)).trans r2⟩

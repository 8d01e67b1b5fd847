/-! ===== the class's tables are emptied ===== -/
theorem class_empty {c : St} {f : Nat → Int32} (h : CntOK c) (hg : ∀ j, j < 6 → isI 2 (f j)) : ∃ c', (∀ cs cw ct : St, ct 14 = f → fX5_passBeat_J48 cs cw ct c = fX5_passBeat_J82 cs cw ct c') ∧ CntOK c' ∧ c' 1 = c 1 ∧ ∀ j, j < 6 → ∀ x, 30 * j ≤ x → x < 30 * j + 30 → (f j = I 0 → c' 0 x = c 0 x) ∧ (f j = I 1 → c' 0 x = nn) := by
  obtain ⟨d, ⟨u1, u2, u3, u4⟩, hl⟩ := loop_upf (σ := St) (ι := {x : St × St × St // x.2.2 14 = f}) (step := fun i k a => fX5_passBeat_S50 k i.1.1 i.1.2.1 i.1.2.2 (a.1) (a.2)) (fun t d => (d, I t)) 6 (fun t d => CntOK d ∧ d 1 = c 1 ∧ (∀ x, 30 * t ≤ x → d 0 x = c 0 x) ∧ ∀ j, j < t → ∀ x, 30 * j ≤ x → x < 30 * j + 30 → (f j = I 0 → d 0 x = c 0 x) ∧ (f j = I 1 → d 0 x = nn)) (fun i d => fX5_passBeat_J82 i.1.1 i.1.2.1 i.1.2.2 d)
    (by
      intro t d ht ⟨u1, u2, u3, u4⟩
      rcases isI2 (hg t ht) with w | w
      · refine ⟨d, ⟨u1, u2, fun x hx => u3 x (by omega), fun j hj x h1 h2 => ?_⟩, fun i rec => ?_⟩
        · by_cases z : j = t
          · subst z
            rw [w, I10]
            exact ⟨fun _ => u3 x h1, fun z => False.elim z⟩
          · exact u4 j (by omega) x h1 h2
        · have w' : i.1.2.2 14 t = I 0 := by rw [i.2]; exact w
          simp (disch := omega) only [fX5_passBeat_S50, ck1, bd1, bx1, bx2, aS_at, iS_at, upd_at, ↓reduceIte, Nat.reduceEqDiff, Nat.reduceAdd, Nat.reduceMul, Nat.reduceSub, Nat.reduceDiv, Nat.reduceLT, Nat.reduceLeDiff, Nat.reduceBEq, ne_eq, not_true_eq_false, not_false_eq_true, reduceCtorEq, if_true, if_false, eq_self, Nat.add_zero, Nat.zero_add, lit, lit_nn, I_nat, I_add, I_mul, I_sub, I_div, inb_t, I_ne, I_nn, nn_I, nn_lt, nn_le, lt_nn, le_nn, I_t, I_f, I_lt_t, I_lt_f, isb_0, isb_1, vz_0, vz_1, nn_nat, w']
      · obtain ⟨c', g1, g2, g3, g4⟩ := cempty u1 ht
        refine ⟨c', ⟨g2, g3.trans u2, fun x hx => ?_, fun j hj x h1 h2 => ?_⟩, fun i rec => ?_⟩
        · rw [(g4 x).2 (by omega)]; exact u3 x (by omega)
        · by_cases z : j = t
          · subst z
            rw [w, I01]
            exact ⟨fun z => False.elim z, fun _ => (g4 x).1 ⟨h1, h2⟩⟩
          · rw [(g4 x).2 (by omega)]; exact u4 j (by omega) x h1 h2
        · have w' : i.1.2.2 14 t = I 1 := by rw [i.2]; exact w
          simp (disch := omega) only [fX5_passBeat_S50, ck1, bd1, bx1, bx2, aS_at, iS_at, upd_at, ↓reduceIte, Nat.reduceEqDiff, Nat.reduceAdd, Nat.reduceMul, Nat.reduceSub, Nat.reduceDiv, Nat.reduceLT, Nat.reduceLeDiff, Nat.reduceBEq, ne_eq, not_true_eq_false, not_false_eq_true, reduceCtorEq, if_true, if_false, eq_self, Nat.add_zero, Nat.zero_add, lit, lit_nn, I_nat, I_add, I_mul, I_sub, I_div, inb_t, I_ne, I_nn, nn_I, nn_lt, nn_le, lt_nn, le_nn, I_t, I_f, I_lt_t, I_lt_f, isb_0, isb_1, vz_0, vz_1, nn_nat, w', g1, I01])
    (by
      intro d _ i rec
      simp (disch := omega) only [fX5_passBeat_S50, ck1, bd1, bx1, bx2, aS_at, iS_at, upd_at, ↓reduceIte, Nat.reduceEqDiff, Nat.reduceAdd, Nat.reduceMul, Nat.reduceSub, Nat.reduceDiv, Nat.reduceLT, Nat.reduceLeDiff, Nat.reduceBEq, ne_eq, not_true_eq_false, not_false_eq_true, reduceCtorEq, if_true, if_false, eq_self, Nat.add_zero, Nat.zero_add, lit, lit_nn, I_nat, I_add, I_mul, I_sub, I_div, inb_t, I_ne, I_nn, nn_I, nn_lt, nn_le, lt_nn, le_nn, I_t, I_f, I_lt_t, I_lt_f, isb_0, isb_1, vz_0, vz_1, nn_nat])
    6 0 c 1000 (by omega) (by omega) ⟨h, rfl, fun _ _ => rfl, fun j hj => by omega⟩
  exact ⟨d, fun cs cw ct e => hl ⟨(cs, cw, ct), e⟩, u1, u2, u4⟩
theorem empty_both {c m : St} {f : Nat → Int32} (h : CTab (c 0) (c 1) (c 2) (m 24) (m 25) (m 26) (m 27) (m 28)) (hs : Sp f (m 39)) : ∃ c' e, (∀ cs cw ct : St, ct 14 = f → fX5_passBeat_J48 cs cw ct c = fX5_passBeat_J82 cs cw ct c') ∧ fX6_opens_L189 m (I 0) = some (pF m 24 e) ∧ CTab (c' 0) (c' 1) (c' 2) ((pF m 24 e) 24) ((pF m 24 e) 25) ((pF m 24 e) 26) ((pF m 24 e) 27) ((pF m 24 e) 28) := by
  obtain ⟨c', g1, g2, g3, g4⟩ := class_empty (f := f) (ctab_cnt h) (fun j hj => by
    obtain ⟨b, hb, e1, -⟩ := hs j hj
    exact ⟨b, hb, e1⟩)
  obtain ⟨e, f1, f2⟩ := ref_empty m (fun j hj => by
    obtain ⟨b, hb, -, e2⟩ := hs j hj
    exact ⟨b, hb, e2⟩)
  refine ⟨c', e, g1, f1, ctab_mk g2 fun s hs' => ?_⟩
  have m24 : (pF m 24 e) 24 = e := rfl
  have m25 : (pF m 24 e) 25 = m 25 := rfl
  have m26 : (pF m 24 e) 26 = m 26 := rfl
  have m27 : (pF m 24 e) 27 = m 27 := rfl
  have m28 : (pF m 24 e) 28 = m 28 := rfl
  obtain ⟨b, hb, e1, e2⟩ := hs s hs'
  rcases (show b = 0 ∨ b = 1 by omega) with rfl | rfl
  · obtain ⟨n, P, k1, -⟩ := h s hs'
    refine ⟨n, P, k1.ext ?_ (fun i hi => ?_) (fun o ho => ⟨?_, fun _ => by rw [g3]⟩)⟩
    · rw [m24]; exact (f2 s hs').1 e2
    · rw [m25, m26, m27, m28]; exact ⟨rfl, rfl, rfl, rfl⟩
    · exact (g4 s hs' _ (by omega) (by omega)).1 e1
  · refine ⟨0, fun _ => 0, by omega, ?_, fun i hi => by omega, fun i j hi => by omega, fun o ho hn => ?_⟩
    · rw [m24]; exact (f2 s hs').2 e2
    · exact absurd ((g4 s hs' _ (by omega) (by omega)).2 e1) hn

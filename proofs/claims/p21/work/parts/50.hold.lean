/-! ===== all switches take the best, on both sides ===== -/
theorem tell_data {N : Nat} {cs cw ct cl cb mm : St} (h : Rel N cs cw ct cl cb mm) (ht : TellAll ct mm) : ∃ V : Nat → Nat → Nat, TN V (cw 5) ∧ TN V (mm 2) ∧ TC V (ct 10) (ct 11) (ct 12) (cw 0) (cw 1) ∧ TC V (mm 20) (mm 21) (mm 22) (mm 3) (mm 4) ∧ TB V ∧ TG V (cw 3) ∧ TG V (mm 6) ∧ ∀ x, x < 30 → V 5 x ≠ 0 → mm 10 x = I 0 := by
  obtain ⟨V, hV⟩ : ∃ V : Nat → Nat → Nat, V = fun i x => if i = 5 then (if ct 10 x = nn then 0 else 1) else if i = 0 then (ct 10 x).toNatClampNeg else if i = 1 then (ct 11 x).toNatClampNeg else if i = 2 then (ct 12 x).toNatClampNeg else if i = 3 then (mm 3 x).toNatClampNeg else if i = 4 then (mm 4 x).toNatClampNeg else if i = 6 then (mm 2 x).toNatClampNeg else (mm 6 x).toNatClampNeg := ⟨_, rfl⟩
  have v0 : ∀ x, V 0 x = (ct 10 x).toNatClampNeg := fun x => by rw [hV]; rfl
  have v1 : ∀ x, V 1 x = (ct 11 x).toNatClampNeg := fun x => by rw [hV]; rfl
  have v2 : ∀ x, V 2 x = (ct 12 x).toNatClampNeg := fun x => by rw [hV]; rfl
  have v3 : ∀ x, V 3 x = (mm 3 x).toNatClampNeg := fun x => by rw [hV]; rfl
  have v4 : ∀ x, V 4 x = (mm 4 x).toNatClampNeg := fun x => by rw [hV]; rfl
  have v5 : ∀ x, V 5 x = (if ct 10 x = nn then 0 else 1) := fun x => by rw [hV]; rfl
  have v6 : ∀ x, V 6 x = (mm 2 x).toNatClampNeg := fun x => by rw [hV]; rfl
  have v7 : ∀ x, V 7 x = (mm 6 x).toNatClampNeg := fun x => by rw [hV]; rfl
  have hR : TN V (mm 2) := by
    intro j hj
    obtain ⟨r, hr, e⟩ := h.1 j hj
    rw [v6, e, I_nat (by omega)]
    exact ⟨hr, rfl⟩
  have hG : TG V (mm 6) := by
    intro x hx
    obtain ⟨r, hr, e⟩ := h.2.2.2.1 x hx
    rw [v7, e, I_nat (by omega)]
    exact ⟨hr, rfl⟩
  have wr : ∀ x, x < 30 → V 5 x ≠ 0 → ∃ j c, j < 30 ∧ mm 3 x = I j ∧ mm 3 j = I x ∧ 1 ≤ c ∧ c ≤ 100 ∧ mm 4 x = I c := by
    intro x hx tx
    rcases ht x hx with ⟨w, -⟩ | ⟨j, r, c, e, hj, a1, -⟩
    · rw [v5, if_pos w] at tx
      exact absurd rfl tx
    · rcases h.2.1 x hx with w | ⟨j', c', b1, b2, b3, b4, b5, b6, b7, b8⟩
      · rw [w, nn_I (by omega)] at a1
        exact False.elim a1
      · exact ⟨j', c', b1, b2, b3, b5, b6, b7⟩
  have hw := h.2.2.2.2.2.2.2.2.2.2.1
  refine ⟨V, ?_, hR, ?_, ?_, ⟨?_, ?_⟩, ?_, hG, fun x hx z => ?_⟩
  · intro j hj
    rw [h.2.2.2.2.2.2.2.2.2.1 j hj]
    exact hR j hj
  · intro x hx
    refine ⟨fun z => ?_, fun z => ?_⟩
    · rw [v5] at z
      by_cases w : ct 10 x = nn
      · exact w
      · rw [if_neg w] at z
        omega
    · obtain ⟨j, c, y1, y2, y3, y4, y5, y6⟩ := wr x hx z
      rcases ht x hx with ⟨w, -⟩ | ⟨j', r, c', e, hj, a1, a2, a3, a4, a5, b1, b2, b3, b4, b5, b6⟩
      · rw [v5, if_pos w] at z
        exact absurd rfl z
      · rw [v0, v1, v2, v3, v4, (hw x hx).1, (hw x hx).2.1, b1, b3, b5, y2, y6, I_nat (by omega), I_nat (by omega), I_nat (by omega), I_nat (by omega), I_nat (by omega)]
        exact ⟨rfl, rfl, rfl, rfl, rfl⟩
  · intro x hx
    refine ⟨fun z => ?_, fun z => ?_⟩
    · rw [v5] at z
      rcases ht x hx with ⟨-, w⟩ | ⟨j', r, c', e, hj, a1, a2, a3, a4, a5, b1, b2, b3, b4, b5, b6⟩
      · exact w
      · rw [b1, if_neg (by rw [I_nn (show r < 2147483648 by omega)]; exact id)] at z
        omega
    · obtain ⟨j, c, y1, y2, y3, y4, y5, y6⟩ := wr x hx z
      rcases ht x hx with ⟨w, -⟩ | ⟨j', r, c', e, hj, a1, a2, a3, a4, a5, b1, b2, b3, b4, b5, b6⟩
      · rw [v5, if_pos w] at z
        exact absurd rfl z
      · rw [v0, v1, v2, v3, v4, b1, b2, b3, b4, b5, b6, y2, y6, I_nat (by omega), I_nat (by omega), I_nat (by omega), I_nat (by omega), I_nat (by omega)]
        exact ⟨rfl, rfl, rfl, rfl, rfl⟩
  · intro x hx z
    obtain ⟨j, c, y1, y2, y3, y4, y5, y6⟩ := wr x hx z
    rcases ht x hx with ⟨w, -⟩ | ⟨j', r, c', e, hj, a1, a2, a3, a4, a5, b1, b2, b3, b4, b5, b6⟩
    · rw [v5, if_pos w] at z
      exact absurd rfl z
    · rw [v0, v1, v2, v3, v4, b1, b3, b5, y2, y6, I_nat (by omega), I_nat (by omega), I_nat (by omega), I_nat (by omega), I_nat (by omega)]
      exact ⟨a3, a4, a5, y1, y4, y5⟩
  · intro x y hx hy tx ty e
    obtain ⟨j, c, y1, y2, y3, -⟩ := wr x hx tx
    obtain ⟨j', c', z1, z2, z3, -⟩ := wr y hy ty
    rw [v3, v3, y2, z2, I_nat (by omega), I_nat (by omega)] at e
    subst e
    rw [y3, I_inj (by omega) (by omega)] at z3
    exact z3
  · intro x hx
    rw [(hw x hx).2.2.2]
    exact hG x hx
  · rcases ht x hx with ⟨w, -⟩ | ⟨j, r, c, e, hj, a1, a2, -⟩
    · rw [v5, if_pos w] at z
      exact absurd rfl z
    · exact a2
theorem root_le {V : Nat → Nat → Nat} {r : Nat → Int32} (hN : TN V r) (hB : TB V) {s b1 b : Nat} (hs : s < 6) (h1 : Bs V s (Ug V s) b1) (h2 : Bs V s (Zg V s b1) b) : nk V (rt V s b1) ≤ nk V (rt V s b) := by
  have uz : ∀ x, Ug V s x → Zg V s b1 x := fun x w => ⟨w.1, w.2.1, w.2.2.2.1, w.2.2.1, Or.inl w.2.2.2.2⟩
  rcases h2 with ⟨e, k⟩ | ⟨e, kd, k1, k2⟩
  · rcases h1 with ⟨e1, -⟩ | ⟨e1, d1, k1, -⟩
    · rw [e, e1]; exact Nat.le_refl _
    · have := k b1 (uz b1 d1)
      omega
  · have er : rt V s b = V 0 b := by unfold rt; rw [if_neg (by omega)]
    rcases kd.2.2.2.2 with w | w
    · have ub : Ug V s b := ⟨kd.1, kd.2.1, kd.2.2.2.1, kd.2.2.1, w⟩
      obtain ⟨a1, a2, a3, a4, a5, a6⟩ := hB.1 b kd.1 kd.2.2.2.1
      have l1 := nk_lt hN (show V 3 b / 5 < 6 by omega)
      rw [er]
      rcases h1 with ⟨e1, z⟩ | ⟨e1, d1, -, z⟩
      · have := z b ub
        have er1 : rt V s b1 = s := by unfold rt; rw [if_pos e1]
        rw [er1]
        unfold skey key at this
        omega
      · have := z b ub
        have er1 : rt V s b1 = V 0 b1 := by unfold rt; rw [if_neg (by omega)]
        rw [er1]
        obtain ⟨c1, c2, c3, c4, c5, c6⟩ := hB.1 b1 d1.1 d1.2.2.1
        have l2 := nk_lt hN (show V 3 b1 / 5 < 6 by omega)
        unfold key at this
        omega
    · rw [er]
      omega
/-- what a switch holds behind the choice, on both sides -/
def HB (V : Nat → Nat → Nat) (s : Nat) (f1 f2 f3 f4 g1 g2 g3 g4 g5 : Nat → Int32) : Prop := ∃ b, HeldC V s b f1 f2 f3 f4 ∧ HeldM V s b g1 g2 g3 g4 ∧ (b < 30 → nk V (V 0 b) < nk V s) ∧ ∀ x, x < 30 → x / 5 = s → V 5 x ≠ 0 → (g5 x = I 1 ∨ (g5 x = I 0 ∧ nk V (V 0 x) < nk V (rt V s b)))
theorem HB.keep {V : Nat → Nat → Nat} {s : Nat} {f1 f2 f3 f4 g1 g2 g3 g4 g5 f1' f2' f3' f4' g1' g2' g3' g4' g5' : Nat → Int32} (h : HB V s f1 f2 f3 f4 g1 g2 g3 g4 g5) (e1 : f1' s = f1 s) (e2 : f2' s = f2 s) (e3 : f3' s = f3 s) (e4 : f4' s = f4 s) (e5 : g1' s = g1 s) (e6 : g2' s = g2 s) (e7 : g3' s = g3 s) (e8 : g4' s = g4 s) (e9 : ∀ x, x / 5 = s → g5' x = g5 x) : HB V s f1' f2' f3' f4' g1' g2' g3' g4' g5' := by
  obtain ⟨b, h1, h2, h3, h4⟩ := h
  refine ⟨b, ?_, ?_, h3, fun x hx h5 tx => ?_⟩
  · unfold HeldC; rw [e1, e2, e3, e4]; exact h1
  · unfold HeldM; rw [e5, e6, e7, e8]; exact h2
  · rw [e9 x h5]; exact h4 x hx h5 tx
theorem hold_both {V : Nat → Nat → Nat} {ct cw mm : St} (n1 : TN V (cw 5)) (n2 : TN V (mm 2)) (t1 : TC V (ct 10) (ct 11) (ct 12) (cw 0) (cw 1)) (t2 : TC V (mm 20) (mm 21) (mm 22) (mm 3) (mm 4)) (hB : TB V) (g1 : TG V (cw 3)) (g2 : TG V (mm 6)) : ∃ ct' mm', fX3_pass_L20 cw ct (I 0) = fX3_pass_J44 ct' cw ∧ fX6_beats_L20 mm (I 0) = fX6_beats_J37 mm' ∧ (∀ q, q < 1 ∨ 4 < q → q ≠ 14 → ct' q = ct q) ∧ (∀ j, j < 6 → ct' 14 j = I 0) ∧ (∀ q, q < 16 ∨ 19 < q → q ≠ 23 → mm' q = mm q) ∧ ∀ s, s < 6 → HB V s (ct' 1) (ct' 2) (ct' 3) (ct' 4) (mm' 16) (mm' 17) (mm' 18) (mm' 19) (mm' 23) := by
  obtain ⟨s, ⟨u1, u2, u3, u4⟩, h1, h2⟩ := loop_two (ι := Unit) (ι' := Unit) (σ := St × St) (step := fun _ k a => fX3_pass_S20 k cw (a.1) (a.2)) (step' := fun _ k a => fX6_beats_S20 k (a.1) (a.2)) (fun t s => (s.1, I t)) (fun t s => (s.2, I t)) 6 (fun t s => (∀ q, q < 1 ∨ 4 < q → q ≠ 14 → s.1 q = ct q) ∧ (∀ j, j < t → s.1 14 j = I 0) ∧ (∀ q, q < 16 ∨ 19 < q → q ≠ 23 → s.2 q = mm q) ∧ ∀ j, j < t → HB V j (s.1 1) (s.1 2) (s.1 3) (s.1 4) (s.2 16) (s.2 17) (s.2 18) (s.2 19) (s.2 23)) (fun _ s => fX3_pass_J44 s.1 cw) (fun _ s => fX6_beats_J37 s.2)
    (by
      intro t s ht ⟨u1, u2, u3, u4⟩
      have hT1 : TC V ((aS s.1 14 (I t) (I 0)) 10) ((aS s.1 14 (I t) (I 0)) 11) ((aS s.1 14 (I t) (I 0)) 12) (cw 0) (cw 1) := by
        simp (disch := omega) only [ck1, bd1, bx1, bx2, aS_at, iS_at, upd_at, ↓reduceIte, Nat.reduceEqDiff, Nat.reduceAdd, Nat.reduceMul, Nat.reduceSub, Nat.reduceDiv, Nat.reduceLT, Nat.reduceLeDiff, Nat.reduceBEq, ne_eq, not_true_eq_false, not_false_eq_true, reduceCtorEq, if_true, if_false, eq_self, Nat.add_zero, Nat.zero_add, lit, lit_nn, I_nat, I_add, I_mul, I_sub, I_div, inb_t, I_ne, I_nn, nn_I, nn_lt, nn_le, lt_nn, le_nn, I_t, I_f, I_lt_t, I_lt_f, isb_0, isb_1, vz_0, vz_1, nn_nat]
        rw [u1 10 (by omega) (by omega), u1 11 (by omega) (by omega), u1 12 (by omega) (by omega)]
        exact t1
      have hT2 : TC V (s.2 20) (s.2 21) (s.2 22) (s.2 3) (s.2 4) := by
        rw [u3 20 (by omega) (by omega), u3 21 (by omega) (by omega), u3 22 (by omega) (by omega), u3 3 (by omega) (by omega), u3 4 (by omega) (by omega)]
        exact t2
      have hN2 : TN V (s.2 2) := by rw [u3 2 (by omega) (by omega)]; exact n2
      have hG2 : TG V (s.2 6) := by rw [u3 6 (by omega) (by omega)]; exact g2
      obtain ⟨b1, b, c', x1, x2, x3, x4, x5⟩ := take_c n1 hT1 hB g1 ht
      obtain ⟨d1, d, m', y1, y2, y3, y4, y5, y6⟩ := holds_m hN2 hT2 hB hG2 ht
      have e1 : b1 = d1 := Bst.uniq (fun x y hx hy e => key_inj n1 hB hx.1 hy.1 hx.2.2.1 hy.2.2.1 e) x4 y4
      subst e1
      have e2 : b = d := Bst.uniq (fun x y hx hy e => key_inj n1 hB hx.1 hy.1 hx.2.2.2.1 hy.2.2.2.1 e) x5 y5
      subst e2
      refine ⟨(c', m'), ⟨fun q hq h14 => ?_, fun j hj => ?_, fun q hq h23 => (y2.1 q hq h23).trans (u3 q hq h23), fun j hj => ?_⟩, fun _ rec => ?_, fun _ rec => ?_⟩
      · show c' q = ct q
        rw [x2.1 q hq, aS_at, if_neg h14]
        exact u1 q hq h14
      · show c' 14 j = I 0
        rw [x2.1 14 (by omega)]
        simp (disch := omega) only [ck1, bd1, bx1, bx2, aS_at, iS_at, upd_at, ↓reduceIte, Nat.reduceEqDiff, Nat.reduceAdd, Nat.reduceMul, Nat.reduceSub, Nat.reduceDiv, Nat.reduceLT, Nat.reduceLeDiff, Nat.reduceBEq, ne_eq, not_true_eq_false, not_false_eq_true, reduceCtorEq, if_true, if_false, eq_self, Nat.add_zero, Nat.zero_add, lit, lit_nn, I_nat, I_add, I_mul, I_sub, I_div, inb_t, I_ne, I_nn, nn_I, nn_lt, nn_le, lt_nn, le_nn, I_t, I_f, I_lt_t, I_lt_f, isb_0, isb_1, vz_0, vz_1, nn_nat]
        by_cases z : j = t
        · rw [if_pos z]
        · rw [if_neg z]; exact u2 j (by omega)
      · by_cases z : j = t
        · subst z
          refine ⟨b, x3, y3, ?_, fun x hx h5 tx => ?_⟩
          · intro hb30
            rcases x5 with ⟨e, -⟩ | ⟨e, kd, k1, -⟩
            · omega
            · unfold key skey at k1
              omega
          · rcases y6 x hx h5 with ⟨w, -⟩ | ⟨w, v⟩
            · exact Or.inl w
            · refine Or.inr ⟨w, ?_⟩
              have := root_le n1 hB ht x4 x5
              have q : nk V (V 0 x) < nk V (rt V j b1) := by
                apply Classical.byContradiction
                intro q
                exact v ⟨tx, Or.inr q⟩
              omega
        · refine (u4 j (by omega)).keep ?_ ?_ ?_ ?_ ?_ ?_ ?_ ?_ ?_
          · show c' 1 j = _
            rw [x2.2 1 j z]; rfl
          · show c' 2 j = _
            rw [x2.2 2 j z]; rfl
          · show c' 3 j = _
            rw [x2.2 3 j z]; rfl
          · show c' 4 j = _
            rw [x2.2 4 j z]; rfl
          · exact y2.2.1 16 j (by omega) z
          · exact y2.2.1 17 j (by omega) z
          · exact y2.2.1 18 j (by omega) z
          · exact y2.2.1 19 j (by omega) z
          · exact fun x hx => y2.2.2 x (by omega)
      · simp (disch := omega) only [fX3_pass_S20, ck1, bd1, bx1, bx2, aS_at, iS_at, upd_at, ↓reduceIte, Nat.reduceEqDiff, Nat.reduceAdd, Nat.reduceMul, Nat.reduceSub, Nat.reduceDiv, Nat.reduceLT, Nat.reduceLeDiff, Nat.reduceBEq, ne_eq, not_true_eq_false, not_false_eq_true, reduceCtorEq, if_true, if_false, eq_self, Nat.add_zero, Nat.zero_add, lit, lit_nn, I_nat, I_add, I_mul, I_sub, I_div, inb_t, I_ne, I_nn, nn_I, nn_lt, nn_le, lt_nn, le_nn, I_t, I_f, I_lt_t, I_lt_f, isb_0, isb_1, vz_0, vz_1, nn_nat, x1]
      · simp (disch := omega) only [fX6_beats_S20, ck1, bd1, bx1, bx2, aS_at, iS_at, upd_at, ↓reduceIte, Nat.reduceEqDiff, Nat.reduceAdd, Nat.reduceMul, Nat.reduceSub, Nat.reduceDiv, Nat.reduceLT, Nat.reduceLeDiff, Nat.reduceBEq, ne_eq, not_true_eq_false, not_false_eq_true, reduceCtorEq, if_true, if_false, eq_self, Nat.add_zero, Nat.zero_add, lit, lit_nn, I_nat, I_add, I_mul, I_sub, I_div, inb_t, I_ne, I_nn, nn_I, nn_lt, nn_le, lt_nn, le_nn, I_t, I_f, I_lt_t, I_lt_f, isb_0, isb_1, vz_0, vz_1, nn_nat, y1])
    (by
      intro s _
      refine ⟨fun _ rec => ?_, fun _ rec => ?_⟩
      · simp (disch := omega) only [fX3_pass_S20, ck1, bd1, bx1, bx2, aS_at, iS_at, upd_at, ↓reduceIte, Nat.reduceEqDiff, Nat.reduceAdd, Nat.reduceMul, Nat.reduceSub, Nat.reduceDiv, Nat.reduceLT, Nat.reduceLeDiff, Nat.reduceBEq, ne_eq, not_true_eq_false, not_false_eq_true, reduceCtorEq, if_true, if_false, eq_self, Nat.add_zero, Nat.zero_add, lit, lit_nn, I_nat, I_add, I_mul, I_sub, I_div, inb_t, I_ne, I_nn, nn_I, nn_lt, nn_le, lt_nn, le_nn, I_t, I_f, I_lt_t, I_lt_f, isb_0, isb_1, vz_0, vz_1, nn_nat]
      · simp (disch := omega) only [fX6_beats_S20, ck1, bd1, bx1, bx2, aS_at, iS_at, upd_at, ↓reduceIte, Nat.reduceEqDiff, Nat.reduceAdd, Nat.reduceMul, Nat.reduceSub, Nat.reduceDiv, Nat.reduceLT, Nat.reduceLeDiff, Nat.reduceBEq, ne_eq, not_true_eq_false, not_false_eq_true, reduceCtorEq, if_true, if_false, eq_self, Nat.add_zero, Nat.zero_add, lit, lit_nn, I_nat, I_add, I_mul, I_sub, I_div, inb_t, I_ne, I_nn, nn_I, nn_lt, nn_le, lt_nn, le_nn, I_t, I_f, I_lt_t, I_lt_f, isb_0, isb_1, vz_0, vz_1, nn_nat])
    6 0 (ct, mm) 1000 (by omega) (by omega) ⟨fun _ _ _ => rfl, fun j hj => by omega, fun _ _ _ => rfl, fun j hj => by omega⟩
  exact ⟨s.1, s.2, h1 (), h2 (), u1, u2, u3, u4⟩

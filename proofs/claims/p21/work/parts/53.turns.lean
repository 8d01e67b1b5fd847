/-! ===== all ports turn, on both sides ===== -/
theorem hb_tree {V : Nat → Nat → Nat} (hB : TB V) {j : Nat} (hj : j < 6) {t1 t2 t3 t4 ro fa hp rp g5 : Nat → Int32} (h : HB V j t1 t2 t3 t4 ro fa hp rp g5) : (isI 6 (ro j) ∧ (∃ h c, h ≤ 7 ∧ c ≤ 100 * h ∧ hp j = I h ∧ fa j = I c) ∧ (rp j = nn ∨ ∃ p, p < 5 ∧ rp j = I (5 * j + p) ∧ ro j ≠ I j)) ∧ (t1 j = ro j ∧ t2 j = fa j ∧ t3 j = hp j ∧ (rp j = nn → t4 j = nn) ∧ (∀ p, p < 5 → rp j = I (5 * j + p) → t4 j = I p)) := by
  obtain ⟨b, h1, h2, h3, -⟩ := h
  rcases h2 with ⟨e, g1, g2, g3, g4⟩ | ⟨e, e5, tb, t7, g1, g2, g3, g4⟩
  · rcases h1 with ⟨-, f1, f2, f3, f4⟩ | ⟨e', -⟩
    · refine ⟨⟨⟨j, hj, g1⟩, ⟨0, 0, by omega, by omega, g3, g2⟩, Or.inl g4⟩, f1.trans g1.symm, f2.trans g2.symm, f3.trans g3.symm, fun _ => f4, fun p hp' e' => ?_⟩
      rw [g4, nn_I (by omega)] at e'
      exact False.elim e'
    · omega
  · rcases h1 with ⟨e', -⟩ | ⟨-, -, -, -, f1, f2, f3, f4⟩
    · omega
    · obtain ⟨d1, d2, d3, d4, d5, d6⟩ := hB.1 b e tb
      refine ⟨⟨⟨V 0 b, d1, g1⟩, ⟨V 2 b + 1, V 1 b + V 4 b, by omega, by omega, g3, g2⟩, Or.inr ⟨b % 5, by omega, ?_, ?_⟩⟩, f1.trans g1.symm, f2.trans g2.symm, f3.trans g3.symm, fun e' => ?_, fun p hp' e' => ?_⟩
      · rw [g4, show 5 * j + b % 5 = b by omega]
      · rw [g1, ne_eq, I_inj (by omega) (by omega)]
        intro z
        have := h3 e
        rw [z] at this
        omega
      · rw [g4, I_nn (by omega)] at e'
        exact False.elim e'
      · rw [g4, I_inj (by omega) (by omega)] at e'
        rw [f4, show b % 5 = p by omega]
theorem opens_start (mm : St) : ∃ mm', fX6_opens mm = fX6_opens_L23 mm' (I 0) ∧ (∀ q, q ≠ 39 → mm' q = mm q) ∧ ∀ j, j < 6 → mm' 39 j = I 0 := by
  obtain ⟨s, ⟨u1, u2⟩, hl⟩ := loop_up (σ := St) (step := fun k a => fX6_opens_S2 k (a.1) (a.2)) (fun t s => (s, I t)) 6 (fun t s => (∀ q, q ≠ 39 → s q = mm q) ∧ ∀ j, j < t → s 39 j = I 0) (fun s => fX6_opens_J21 s)
    (by
      intro t s ht ⟨u1, u2⟩
      refine ⟨aS s 39 (I t) (I 0), ⟨fun q hq => ?_, fun j hj => ?_⟩, fun rec => ?_⟩
      · rw [aS_at, if_neg hq]; exact u1 q hq
      · simp (disch := omega) only [ck1, bd1, bx1, bx2, aS_at, iS_at, upd_at, ↓reduceIte, Nat.reduceEqDiff, Nat.reduceAdd, Nat.reduceMul, Nat.reduceSub, Nat.reduceDiv, Nat.reduceLT, Nat.reduceLeDiff, Nat.reduceBEq, ne_eq, not_true_eq_false, not_false_eq_true, reduceCtorEq, if_true, if_false, eq_self, Nat.add_zero, Nat.zero_add, lit, lit_nn, I_nat, I_add, I_mul, I_sub, I_div, inb_t, I_ne, I_nn, nn_I, nn_lt, nn_le, lt_nn, le_nn, I_t, I_f, I_lt_t, I_lt_f, isb_0, isb_1, vz_0, vz_1, nn_nat]
        by_cases z : j = t
        · rw [if_pos z]
        · rw [if_neg z]; exact u2 j (by omega)
      · simp (disch := omega) only [fX6_opens_S2, ck1, bd1, bx1, bx2, aS_at, iS_at, upd_at, ↓reduceIte, Nat.reduceEqDiff, Nat.reduceAdd, Nat.reduceMul, Nat.reduceSub, Nat.reduceDiv, Nat.reduceLT, Nat.reduceLeDiff, Nat.reduceBEq, ne_eq, not_true_eq_false, not_false_eq_true, reduceCtorEq, if_true, if_false, eq_self, Nat.add_zero, Nat.zero_add, lit, lit_nn, I_nat, I_add, I_mul, I_sub, I_div, inb_t, I_ne, I_nn, nn_I, nn_lt, nn_le, lt_nn, le_nn, I_t, I_f, I_lt_t, I_lt_f, isb_0, isb_1, vz_0, vz_1, nn_nat])
    (by
      intro s _ rec
      simp (disch := omega) only [fX6_opens_S2, ck1, bd1, bx1, bx2, aS_at, iS_at, upd_at, ↓reduceIte, Nat.reduceEqDiff, Nat.reduceAdd, Nat.reduceMul, Nat.reduceSub, Nat.reduceDiv, Nat.reduceLT, Nat.reduceLeDiff, Nat.reduceBEq, ne_eq, not_true_eq_false, not_false_eq_true, reduceCtorEq, if_true, if_false, eq_self, Nat.add_zero, Nat.zero_add, lit, lit_nn, I_nat, I_add, I_mul, I_sub, I_div, inb_t, I_ne, I_nn, nn_I, nn_lt, nn_le, lt_nn, le_nn, I_t, I_f, I_lt_t, I_lt_f, isb_0, isb_1, vz_0, vz_1, nn_nat])
    6 0 mm 1000 (by omega) (by omega) ⟨fun _ _ => rfl, fun j hj => by omega⟩
  exact ⟨s, hl, u1, u2⟩
/-- root ports have their role, and a switch without one is its own root -/
def Fresh (m : St) : Prop := ∀ j, j < 6 → (m 19 j = nn ∧ m 16 j = I j) ∨ ∃ k, k < 30 ∧ k / 5 = j ∧ m 19 j = I k ∧ m 13 k = I 1
def FWs (m : St) : Prop := ∀ k, k < 30 → m 3 k ≠ nn → FW (m 10) (m 12) (m 13) (m 14) k
theorem turn_all {V : Nat → Nat → Nat} {M : Nat} {cs cw ct0 cl cb mm0 ct1 mm1 : St} (h : Rel M cs cw ct0 cl cb mm0) (hM : M < 100000) (n1 : TN V (cw 5)) (n2 : TN V (mm0 2)) (t1 : TC V (ct0 10) (ct0 11) (ct0 12) (cw 0) (cw 1)) (t2 : TC V (mm0 20) (mm0 21) (mm0 22) (mm0 3) (mm0 4)) (hB : TB V) (hsh : ∀ x, x < 30 → V 5 x ≠ 0 → mm0 10 x = I 0) (fc : ∀ q, q < 1 ∨ 4 < q → q ≠ 14 → ct1 q = ct0 q) (f14 : ∀ j, j < 6 → ct1 14 j = I 0) (fm : ∀ q, q < 16 ∨ 19 < q → q ≠ 23 → mm1 q = mm0 q) (hh : ∀ s, s < 6 → HB V s (ct1 1) (ct1 2) (ct1 3) (ct1 4) (mm1 16) (mm1 17) (mm1 18) (mm1 19) (mm1 23)) :
    ∃ ct2 mm2, fX3_pass_J44 ct1 cw = fX3_pass_J63 ct2 cw ∧ fX6_opens mm1 = fX6_opens_J183 mm2 ∧ Rel (M + 1) cs cw ct2 cl cb mm2 ∧ (∀ j, j < 6 → ∃ b, b < 2 ∧ ct2 14 j = I b ∧ mm2 39 j = I b) ∧ ct2 13 = ct0 13 ∧ Fb mm2 mm0 ∧ Fresh mm2 ∧ FWs mm2 := by
  obtain ⟨mA, a1, a2, a3⟩ := opens_start mm1
  obtain ⟨p1, p2, p3, p4, p5, p6, p7, p8, p9, c1, c2, c3, c4, c5, c6, c7, c8, c9, c10⟩ := h
  obtain ⟨s, ⟨u1, u2, u3, u4, u5, u6⟩, h1, h2⟩ := loop_two (ι := Unit) (ι' := Unit) (σ := St × St) (step := fun _ k a => fX3_pass_S46 k cw (a.1) (a.2)) (step' := fun _ k a => fX6_opens_S23 k (a.1) (a.2)) (fun t s => (s.1, I t)) (fun t s => (s.2, I t)) 30
    (fun t s => (∀ q, ¬ (6 ≤ q ∧ q ≤ 8) → q ≠ 14 → s.1 q = ct1 q) ∧ (∀ q, ¬ (12 ≤ q ∧ q ≤ 14) → q ≠ 39 → s.2 q = mm1 q) ∧ (∀ q x, t ≤ x → q ≠ 14 → s.1 q x = ct1 q x) ∧ (∀ q x, t ≤ x → q ≠ 39 → s.2 q x = mm1 q x) ∧ (∀ x, x < t → PP1 (M + 1) (s.2 3) (s.2 5) (s.2 10) (s.2 11) (s.2 12) (s.2 13) (s.2 14) (s.2 19) x ∧ CP1 (s.1 5) (s.1 6) (s.1 7) (s.1 8) (s.2 3) (s.2 10) (s.2 11) (s.2 12) (s.2 13) (s.2 14) x ∧ (s.2 10 x = I 1 → s.2 14 x = I 0) ∧ (s.2 3 x ≠ nn → FW (s.2 10) (s.2 12) (s.2 13) (s.2 14) x ∧ (s.2 10 x = I 0 → s.2 19 (x / 5) = I x → s.2 13 x = I 1))) ∧ ∀ j, j < 6 → ∃ b, b < 2 ∧ s.1 14 j = I b ∧ s.2 39 j = I b) (fun _ s => fX3_pass_J63 s.1 cw) (fun _ s => fX6_opens_J183 s.2)
    (by
      intro t s ht ⟨u1, u2, u3, u4, u5, u6⟩
      have x1 : ∀ q, (q < 1 ∨ 4 < q) → ¬ (6 ≤ q ∧ q ≤ 8) → q ≠ 14 → s.1 q = ct0 q := fun q y1 y2 y3 => (u1 q y2 y3).trans (fc q y1 y3)
      have x2 : ∀ q, (q < 16 ∨ 19 < q) → q ≠ 23 → ¬ (12 ≤ q ∧ q ≤ 14) → q ≠ 39 → s.2 q = mm0 q := fun q y1 y2 y3 y4 => (u2 q y3 y4).trans (fm q y1 y2)
      have x3 : ∀ q, 5 ≤ q → q ≠ 14 → s.1 q t = ct0 q t := fun q y1 y2 => by rw [u3 q t (by omega) y2, fc q (by omega) y2]
      have x4 : ∀ q, q < 16 → s.2 q t = mm0 q t := fun q y1 => by rw [u4 q t (by omega) (by omega), fm q (by omega) (by omega)]
      have n2' : TN V (s.2 2) := by rw [x2 2 (by omega) (by omega) (by omega) (by omega)]; exact n2
      have t1' : TC V (s.1 10) (s.1 11) (s.1 12) (cw 0) (cw 1) := by rw [x1 10 (by omega) (by omega) (by omega), x1 11 (by omega) (by omega) (by omega), x1 12 (by omega) (by omega) (by omega)]; exact t1
      have t2' : TC V (s.2 20) (s.2 21) (s.2 22) (s.2 3) (s.2 4) := by rw [x2 20 (by omega) (by omega) (by omega) (by omega), x2 21 (by omega) (by omega) (by omega) (by omega), x2 22 (by omega) (by omega) (by omega) (by omega), x2 3 (by omega) (by omega) (by omega) (by omega), x2 4 (by omega) (by omega) (by omega) (by omega)]; exact t2
      have hb : HB V (t / 5) (s.1 1) (s.1 2) (s.1 3) (s.1 4) (s.2 16) (s.2 17) (s.2 18) (s.2 19) (s.2 23) := by
        rw [u1 1 (by omega) (by omega), u1 2 (by omega) (by omega), u1 3 (by omega) (by omega), u1 4 (by omega) (by omega), u2 16 (by omega) (by omega), u2 17 (by omega) (by omega), u2 18 (by omega) (by omega), u2 19 (by omega) (by omega), u2 23 (by omega) (by omega)]
        exact hh (t / 5) (by omega)
      have hw : cw 0 t = s.2 3 t := by rw [x4 3 (by omega)]; exact (c2 t ht).1
      have hj : s.2 3 t = nn ∨ ∃ j, j < 30 ∧ s.2 3 t = I j := by
        rw [x4 3 (by omega)]
        rcases p2 t ht with w | ⟨j, c, w1, w2, -⟩
        · exact Or.inl w
        · exact Or.inr ⟨j, w1, w2⟩
      have pp : PP1 M (s.2 3) (s.2 5) (s.2 10) (s.2 11) (s.2 12) (s.2 13) (s.2 14) (mm0 19) t := by
        unfold PP1
        rw [x4 3 (by omega), x4 5 (by omega), x4 10 (by omega), x4 11 (by omega), x4 12 (by omega), x4 13 (by omega), x4 14 (by omega)]
        exact p8 t ht
      have cp : CP1 (s.1 5) (s.1 6) (s.1 7) (s.1 8) (s.2 3) (s.2 10) (s.2 11) (s.2 12) (s.2 13) (s.2 14) t := by
        unfold CP1
        rw [x4 3 (by omega), x4 10 (by omega), x4 11 (by omega), x4 12 (by omega), x4 13 (by omega), x4 14 (by omega), x3 5 (by omega) (by omega), x3 6 (by omega) (by omega), x3 7 (by omega) (by omega), x3 8 (by omega) (by omega)]
        exact c7 t ht
      have ps : s.2 10 t = I 1 → s.2 14 t = I 0 := by
        rw [x4 10 (by omega), x4 14 (by omega)]
        exact p9 t ht
      obtain ⟨c', m', g1, g2, g3, g4, g5, g6, g7, g9, g8⟩ := turn_step n1 n2' t1' t2' hB (by omega) ht hb hw hj pp cp ps (u6 (t / 5) (by omega))
      refine ⟨(c', m'), ⟨fun q y1 y2 => (g3.1 q y1 y2).trans (u1 q y1 y2), fun q y1 y2 => (g4.1 q y1 y2).trans (u2 q y1 y2), fun q x y1 y2 => (g3.2.1 q x y2 (by omega)).trans (u3 q x (by omega) y2), fun q x y1 y2 => (g4.2.1 q x y2 (by omega)).trans (u4 q x (by omega) y2), fun x hx => ?_, fun j hj => ?_⟩, fun _ => g1, fun _ => g2⟩
      · by_cases z : x = t
        · subst z; exact ⟨g5, g6, g7, g9⟩
        · have kc : ∀ q, q ≠ 14 → c' q x = s.1 q x := fun q y => g3.2.1 q x y z
          have km : ∀ q, q ≠ 39 → m' q x = s.2 q x := fun q y => g4.2.1 q x y z
          have k19 : m' 19 = s.2 19 := g4.1 19 (by omega) (by omega)
          show PP1 (M + 1) (m' 3) (m' 5) (m' 10) (m' 11) (m' 12) (m' 13) (m' 14) (m' 19) x ∧ CP1 (c' 5) (c' 6) (c' 7) (c' 8) (m' 3) (m' 10) (m' 11) (m' 12) (m' 13) (m' 14) x ∧ (m' 10 x = I 1 → m' 14 x = I 0) ∧ (m' 3 x ≠ nn → FW (m' 10) (m' 12) (m' 13) (m' 14) x ∧ (m' 10 x = I 0 → m' 19 (x / 5) = I x → m' 13 x = I 1))
          have u := u5 x (by omega)
          unfold PP1 CP1 FW at u ⊢
          rw [k19, km 3 (by omega), km 5 (by omega), km 10 (by omega), km 11 (by omega), km 12 (by omega), km 13 (by omega), km 14 (by omega), kc 5 (by omega), kc 6 (by omega), kc 7 (by omega), kc 8 (by omega)]
          exact u
      · by_cases z : j = t / 5
        · subst z; exact g8
        · show ∃ b, b < 2 ∧ c' 14 j = I b ∧ m' 39 j = I b
          rw [g3.2.2 j z, g4.2.2 j z]
          exact u6 j hj)
    (by
      intro s _
      refine ⟨fun _ rec => ?_, fun _ rec => ?_⟩
      · simp (disch := omega) only [fX3_pass_S46, ck1, bd1, bx1, bx2, aS_at, iS_at, upd_at, ↓reduceIte, Nat.reduceEqDiff, Nat.reduceAdd, Nat.reduceMul, Nat.reduceSub, Nat.reduceDiv, Nat.reduceLT, Nat.reduceLeDiff, Nat.reduceBEq, ne_eq, not_true_eq_false, not_false_eq_true, reduceCtorEq, if_true, if_false, eq_self, Nat.add_zero, Nat.zero_add, lit, lit_nn, I_nat, I_add, I_mul, I_sub, I_div, inb_t, I_ne, I_nn, nn_I, nn_lt, nn_le, lt_nn, le_nn, I_t, I_f, I_lt_t, I_lt_f, isb_0, isb_1, vz_0, vz_1, nn_nat]
      · simp (disch := omega) only [fX6_opens_S23, ck1, bd1, bx1, bx2, aS_at, iS_at, upd_at, ↓reduceIte, Nat.reduceEqDiff, Nat.reduceAdd, Nat.reduceMul, Nat.reduceSub, Nat.reduceDiv, Nat.reduceLT, Nat.reduceLeDiff, Nat.reduceBEq, ne_eq, not_true_eq_false, not_false_eq_true, reduceCtorEq, if_true, if_false, eq_self, Nat.add_zero, Nat.zero_add, lit, lit_nn, I_nat, I_add, I_mul, I_sub, I_div, inb_t, I_ne, I_nn, nn_I, nn_lt, nn_le, lt_nn, le_nn, I_t, I_f, I_lt_t, I_lt_f, isb_0, isb_1, vz_0, vz_1, nn_nat])
    30 0 (ct1, mA) 1000 (by omega) (by omega) ⟨fun _ _ _ => rfl, fun q _ y => a2 q y, fun _ _ _ _ => rfl, fun q x _ y => by show mA q x = _; rw [a2 q y], fun x hx => by omega, fun j hj => ⟨0, by omega, f14 j hj, a3 j hj⟩⟩
  have m0 : ∀ q, (q < 16 ∨ 19 < q) → q ≠ 23 → ¬ (12 ≤ q ∧ q ≤ 14) → q ≠ 39 → s.2 q = mm0 q := fun q y1 y2 y3 y4 => (u2 q y3 y4).trans (fm q y1 y2)
  have c0 : ∀ q, (q < 1 ∨ 4 < q) → ¬ (6 ≤ q ∧ q ≤ 8) → q ≠ 14 → s.1 q = ct0 q := fun q y1 y2 y3 => (u1 q y2 y3).trans (fc q y1 y3)
  have mt : ∀ q, 16 ≤ q → q ≤ 19 → s.2 q = mm1 q := fun q y1 y2 => u2 q (by omega) (by omega)
  have tt : ∀ q, 1 ≤ q → q ≤ 4 → s.1 q = ct1 q := fun q y1 y2 => u1 q (by omega) (by omega)
  refine ⟨s.1, s.2, ?_, ?_, ⟨?_, ?_, ?_, ?_, ?_, ?_, ?_, fun k hk => (u5 k hk).1, fun k hk => (u5 k hk).2.2.1, ?_, ?_, ?_, ?_, ?_, ?_, fun k hk => (u5 k hk).2.1, ?_, ?_, ?_⟩, u6, c0 13 (by omega) (by omega) (by omega), fun q hq => m0 q (by omega) (by omega) (by omega) (by omega), fun j hj => ?_, fun k hk hn => ((u5 k hk).2.2.2 hn).1⟩
  · rw [← h1 ()]
    rfl
  · rw [a1, ← h2 ()]
    rfl
  · rw [m0 2 (by omega) (by omega) (by omega) (by omega)]; exact p1
  · rw [m0 3 (by omega) (by omega) (by omega) (by omega), m0 4 (by omega) (by omega) (by omega) (by omega)]; exact p2
  · rw [m0 3 (by omega) (by omega) (by omega) (by omega), m0 5 (by omega) (by omega) (by omega) (by omega)]; exact p3
  · rw [m0 6 (by omega) (by omega) (by omega) (by omega)]; exact p4
  · rw [m0 7 (by omega) (by omega) (by omega) (by omega), m0 8 (by omega) (by omega) (by omega) (by omega), m0 9 (by omega) (by omega) (by omega) (by omega)]; exact p5
  · rw [m0 0 (by omega) (by omega) (by omega) (by omega), m0 1 (by omega) (by omega) (by omega) (by omega)]
    obtain ⟨y1, ⟨n, y2, y3⟩, y4⟩ := p6
    exact ⟨by omega, ⟨n, by omega, y3⟩, y4⟩
  · rw [mt 16 (by omega) (by omega), mt 17 (by omega) (by omega), mt 18 (by omega) (by omega), mt 19 (by omega) (by omega)]
    exact fun j hj => (hb_tree hB hj (hh j hj)).1
  · rw [m0 2 (by omega) (by omega) (by omega) (by omega)]; exact c1
  · rw [m0 3 (by omega) (by omega) (by omega) (by omega), m0 4 (by omega) (by omega) (by omega) (by omega), m0 5 (by omega) (by omega) (by omega) (by omega), m0 6 (by omega) (by omega) (by omega) (by omega)]; exact c2
  · rw [m0 5 (by omega) (by omega) (by omega) (by omega)]; exact c3
  · rw [m0 3 (by omega) (by omega) (by omega) (by omega), m0 5 (by omega) (by omega) (by omega) (by omega)]; exact c4
  · rw [m0 7 (by omega) (by omega) (by omega) (by omega), m0 8 (by omega) (by omega) (by omega) (by omega), m0 9 (by omega) (by omega) (by omega) (by omega)]; exact c5
  · rw [mt 16 (by omega) (by omega), mt 17 (by omega) (by omega), mt 18 (by omega) (by omega), mt 19 (by omega) (by omega), tt 1 (by omega) (by omega), tt 2 (by omega) (by omega), tt 3 (by omega) (by omega), tt 4 (by omega) (by omega)]
    exact fun j hj => (hb_tree hB hj (hh j hj)).2
  · rw [c0 9 (by omega) (by omega) (by omega), m0 0 (by omega) (by omega) (by omega) (by omega), m0 1 (by omega) (by omega) (by omega) (by omega)]; exact c8
  · rw [m0 15 (by omega) (by omega) (by omega) (by omega), m0 29 (by omega) (by omega) (by omega) (by omega), m0 30 (by omega) (by omega) (by omega) (by omega)]; exact c9
  · rw [m0 24 (by omega) (by omega) (by omega) (by omega), m0 25 (by omega) (by omega) (by omega) (by omega), m0 26 (by omega) (by omega) (by omega) (by omega), m0 27 (by omega) (by omega) (by omega) (by omega), m0 28 (by omega) (by omega) (by omega) (by omega)]; exact c10
  · obtain ⟨b, -, k2, -, -⟩ := hh j hj
    rw [mt 19 (by omega) (by omega), mt 16 (by omega) (by omega)]
    rcases k2 with ⟨e, g1, g2, g3, g4⟩ | ⟨e, e5, tb, t7, g1, g2, g3, g4⟩
    · exact Or.inl ⟨g4, g1⟩
    · refine Or.inr ⟨b, e, e5, g4, ((u5 b e).2.2.2 ?_).2 ?_ ?_⟩
      · rw [m0 3 (by omega) (by omega) (by omega) (by omega), ((t2 b e).2 tb).2.2.2.1, ne_eq, I_nn (by have := (hB.1 b e tb).2.2.2.1; omega)]
        exact id
      · rw [m0 10 (by omega) (by omega) (by omega) (by omega)]
        exact hsh b e tb
      · rw [mt 19 (by omega) (by omega), e5]
        exact g4

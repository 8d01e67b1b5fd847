/-! ===== states that are the same where it counts ===== -/
theorem Rel.eqm {N : Nat} {cs cw ct cl cb mm m : St} (h : Rel N cs cw ct cl cb mm) (e : ∀ q, (1 ≤ q ∧ q ≤ 9) ∨ q = 29 ∨ q = 30 → m q = mm q) (e0 : m 0 0 = mm 0 0) (e10 : ∀ k, k < 30 → m 10 k = mm 10 k) (e12 : ∀ k, k < 30 → m 12 k = mm 12 k) (eT : ∀ y, y < 342 → TT m y = TT mm y) : Rel N cs cw ct cl cb m := by
  have f1 := e 1 (by omega)
  have f2 := e 2 (by omega)
  have f3 := e 3 (by omega)
  have f4 := e 4 (by omega)
  have f5 := e 5 (by omega)
  have f6 := e 6 (by omega)
  have f7 := e 7 (by omega)
  have f8 := e 8 (by omega)
  have f9 := e 9 (by omega)
  have f29 := e 29 (by omega)
  have f30 := e 30 (by omega)
  have g16 : ∀ x, x < 6 → m 16 x = mm 16 x := fun x hx => by rw [← tt_16 m hx, ← tt_16 mm hx, eT _ (by omega)]
  have g17 : ∀ x, x < 6 → m 17 x = mm 17 x := fun x hx => by rw [← tt_17 m hx, ← tt_17 mm hx, eT _ (by omega)]
  have g18 : ∀ x, x < 6 → m 18 x = mm 18 x := fun x hx => by rw [← tt_18 m hx, ← tt_18 mm hx, eT _ (by omega)]
  have g19 : ∀ x, x < 6 → m 19 x = mm 19 x := fun x hx => by rw [← tt_19 m hx, ← tt_19 mm hx, eT _ (by omega)]
  have g13 : ∀ x, x < 30 → m 13 x = mm 13 x := fun x hx => by rw [← tt_13 m hx, ← tt_13 mm hx, eT _ (by omega)]
  have g14 : ∀ x, x < 30 → m 14 x = mm 14 x := fun x hx => by rw [← tt_14 m hx, ← tt_14 mm hx, eT _ (by omega)]
  have g11 : ∀ x, x < 30 → m 11 x = mm 11 x := fun x hx => by rw [← tt_11 m hx, ← tt_11 mm hx, eT _ (by omega)]
  have g15 : ∀ x, x < 30 → m 15 x = mm 15 x := fun x hx => by rw [← tt_15 m hx, ← tt_15 mm hx, eT _ (by omega)]
  have g24 : ∀ x, x < 6 → m 24 x = mm 24 x := fun x hx => by rw [← tt_24 m hx, ← tt_24 mm hx, eT _ (by omega)]
  have g25 : ∀ x, x < 48 → m 25 x = mm 25 x := fun x hx => by rw [← tt_25 m hx, ← tt_25 mm hx, eT _ (by omega)]
  have g26 : ∀ x, x < 48 → m 26 x = mm 26 x := fun x hx => by rw [← tt_26 m hx, ← tt_26 mm hx, eT _ (by omega)]
  have g27 : ∀ x, x < 48 → m 27 x = mm 27 x := fun x hx => by rw [← tt_27 m hx, ← tt_27 mm hx, eT _ (by omega)]
  have g28 : ∀ x, x < 48 → m 28 x = mm 28 x := fun x hx => by rw [← tt_28 m hx, ← tt_28 mm hx, eT _ (by omega)]
  obtain ⟨p1, p2, p3, p4, p5, p6, p7, p8, p9, c1, c2, c3, c4, c5, c6, c7, c8, c9, c10⟩ := h
  refine ⟨?_, ?_, ?_, ?_, ?_, ?_, fun j hj => ?_, fun k hk => ?_, fun k hk => ?_, ?_, ?_, ?_, ?_, ?_, fun j hj => ?_, fun k hk => ?_, ?_, ⟨fun k hk => ?_, ?_⟩, fun s hs => ?_⟩
  · rw [f2]; exact p1
  · rw [f3, f4]; exact p2
  · rw [f3, f5]; exact p3
  · rw [f6]; exact p4
  · rw [f7, f8, f9]; exact p5
  · rw [f1]; refine ⟨p6.1, ?_, p6.2.2⟩; rw [e0]; exact p6.2.1
  · rw [g16 j hj, g17 j hj, g18 j hj, g19 j hj]; exact p7 j hj
  · have := p8 k hk
    rw [f3, f5, e10 k hk, g11 k hk, e12 k hk, g13 k hk, g14 k hk, g19 (k / 5) (by omega)]
    exact this
  · rw [e10 k hk, g14 k hk]; exact p9 k hk
  · rw [f2]; exact c1
  · rw [f3, f4, f5, f6]; exact c2
  · rw [f5]; exact c3
  · rw [f3, f5]; exact c4
  · rw [f7, f8, f9]; exact c5
  · rw [g16 j hj, g17 j hj, g18 j hj, g19 j hj]; exact c6 j hj
  · rw [f3, e10 k hk, g11 k hk, e12 k hk, g13 k hk, g14 k hk]; exact c7 k hk
  · rw [f1]; refine ⟨?_, c8.2⟩; rw [e0]; exact c8.1
  · rw [g15 k hk]; exact c9.1 k hk
  · rw [f29, f30]; exact c9.2
  · obtain ⟨n, P, k1, k2⟩ := c10 s hs
    exact ⟨n, P, k1.ext (g24 s hs) (fun i hi => ⟨g25 _ (by omega), g26 _ (by omega), g27 _ (by omega), g28 _ (by omega)⟩) (fun o ho => ⟨rfl, fun _ => rfl⟩), k2⟩
theorem Rel.eqc {N : Nat} {cs cw ct cl cb mm c : St} (h : Rel N cs cw ct cl cb mm) (e : ∀ q x, 1 ≤ q → q ≤ 4 → x < 6 → c q x = ct q x) (e2 : ∀ q x, 5 ≤ q → q ≤ 8 → x < 30 → c q x = ct q x) (e9 : c 9 0 = ct 9 0) : Rel N cs cw c cl cb mm := by
  obtain ⟨p1, p2, p3, p4, p5, p6, p7, p8, p9, c1, c2, c3, c4, c5, c6, c7, c8, c9, c10⟩ := h
  refine ⟨p1, p2, p3, p4, p5, p6, p7, p8, p9, c1, c2, c3, c4, c5, fun j hj => ?_, fun k hk => ?_, ?_, c9, c10⟩
  · rw [e 1 j (by omega) (by omega) hj, e 2 j (by omega) (by omega) hj, e 3 j (by omega) (by omega) hj, e 4 j (by omega) (by omega) hj]; exact c6 j hj
  · rw [e2 5 k (by omega) (by omega) hk, e2 6 k (by omega) (by omega) hk, e2 7 k (by omega) (by omega) hk, e2 8 k (by omega) (by omega) hk]; exact c7 k hk
  · refine ⟨?_, c8.2⟩; rw [e9]; exact c8.1
def Cp (t r : Nat) (c0 c : St) : Prop := (∀ q x, 1 ≤ q → q ≤ 4 → x < t → c q x = c0 q x) ∧ ∀ q x, 5 ≤ q → q ≤ 8 → x < r → c q x = c0 q x
theorem copy_eq (cu ct : St) (h6 : ∀ k, k < 30 → isI 2 (ct 6 k)) : ∃ c, fX3_copyFrom cu ct = some c ∧ Cp 6 30 ct c ∧ c 9 0 = ct 9 0 := by
  obtain ⟨a, u, hl⟩ := loop_up (σ := St) (step := fun k a => fX3_copyFrom_S2 k ct (a.1) (a.2)) (fun t c => (c, I t)) 6 (fun t c => Cp t 0 ct c) (fun c => fX3_copyFrom_J62 c ct)
    (by
      intro t c ht ⟨u1, u2⟩
      refine ⟨aS (aS (aS (aS c 1 (I t) (ct 1 t)) 2 (I t) (ct 2 t)) 3 (I t) (ct 3 t)) 4 (I t) (ct 4 t), ⟨fun q x h1 h2 hx => ?_, fun q x h1 h2 hx => by omega⟩, fun rec => ?_⟩
      · by_cases d : x = t
        · subst d
          rcases (show q = 1 ∨ q = 2 ∨ q = 3 ∨ q = 4 by omega) with rfl | rfl | rfl | rfl <;> simp (disch := omega) only [ck1, bd1, bx1, bx2, aS_at, iS_at, upd_at, ↓reduceIte, Nat.reduceEqDiff, Nat.reduceAdd, Nat.reduceMul, Nat.reduceSub, Nat.reduceDiv, Nat.reduceLT, Nat.reduceLeDiff, Nat.reduceBEq, ne_eq, not_true_eq_false, not_false_eq_true, reduceCtorEq, if_true, if_false, eq_self, Nat.add_zero, Nat.zero_add, lit, lit_nn, I_nat, I_add, I_mul, I_sub, I_div, inb_t, I_ne, I_nn, nn_I, nn_lt, nn_le, lt_nn, le_nn, I_t, I_f, I_lt_t, I_lt_f, isb_0, isb_1, vz_0, vz_1, nn_nat]
        · have u := u1 q x h1 h2 (by omega)
          rcases (show q = 1 ∨ q = 2 ∨ q = 3 ∨ q = 4 by omega) with rfl | rfl | rfl | rfl <;> simp (disch := omega) only [ck1, bd1, bx1, bx2, aS_at, iS_at, upd_at, ↓reduceIte, Nat.reduceEqDiff, Nat.reduceAdd, Nat.reduceMul, Nat.reduceSub, Nat.reduceDiv, Nat.reduceLT, Nat.reduceLeDiff, Nat.reduceBEq, ne_eq, not_true_eq_false, not_false_eq_true, reduceCtorEq, if_true, if_false, eq_self, Nat.add_zero, Nat.zero_add, lit, lit_nn, I_nat, I_add, I_mul, I_sub, I_div, inb_t, I_ne, I_nn, nn_I, nn_lt, nn_le, lt_nn, le_nn, I_t, I_f, I_lt_t, I_lt_f, isb_0, isb_1, vz_0, vz_1, nn_nat, d] <;> exact u
      · simp (disch := omega) only [fX3_copyFrom_S2, ck1, bd1, bx1, bx2, aS_at, iS_at, upd_at, ↓reduceIte, Nat.reduceEqDiff, Nat.reduceAdd, Nat.reduceMul, Nat.reduceSub, Nat.reduceDiv, Nat.reduceLT, Nat.reduceLeDiff, Nat.reduceBEq, ne_eq, not_true_eq_false, not_false_eq_true, reduceCtorEq, if_true, if_false, eq_self, Nat.add_zero, Nat.zero_add, lit, lit_nn, I_nat, I_add, I_mul, I_sub, I_div, inb_t, I_ne, I_nn, nn_I, nn_lt, nn_le, lt_nn, le_nn, I_t, I_f, I_lt_t, I_lt_f, isb_0, isb_1, vz_0, vz_1, nn_nat])
    (by
      intro c _ rec
      simp (disch := omega) only [fX3_copyFrom_S2, ck1, bd1, bx1, bx2, aS_at, iS_at, upd_at, ↓reduceIte, Nat.reduceEqDiff, Nat.reduceAdd, Nat.reduceMul, Nat.reduceSub, Nat.reduceDiv, Nat.reduceLT, Nat.reduceLeDiff, Nat.reduceBEq, ne_eq, not_true_eq_false, not_false_eq_true, reduceCtorEq, if_true, if_false, eq_self, Nat.add_zero, Nat.zero_add, lit, lit_nn, I_nat, I_add, I_mul, I_sub, I_div, inb_t, I_ne, I_nn, nn_I, nn_lt, nn_le, lt_nn, le_nn, I_t, I_f, I_lt_t, I_lt_f, isb_0, isb_1, vz_0, vz_1, nn_nat])
    6 0 cu 1000 (by omega) (by omega) ⟨fun q x _ _ hx => by omega, fun q x _ _ hx => by omega⟩
  obtain ⟨b, v, hm⟩ := loop_up (σ := St) (step := fun k a => fX3_copyFrom_S64 k ct (a.1) (a.2)) (fun t c => (c, I t)) 30 (fun t c => Cp 6 t ct c) (fun c => fX3_copyFrom_J124 c ct)
    (by
      intro t c ht ⟨u1, u2⟩
      have v6 := vz (h6 t ht)
      refine ⟨aS (aS (aS (aS c 5 (I t) (ct 5 t)) 6 (I t) (ct 6 t)) 7 (I t) (ct 7 t)) 8 (I t) (ct 8 t), ⟨fun q x h1 h2 hx => ?_, fun q x h1 h2 hx => ?_⟩, fun rec => ?_⟩
      · have u := u1 q x h1 h2 hx
        rcases (show q = 1 ∨ q = 2 ∨ q = 3 ∨ q = 4 by omega) with rfl | rfl | rfl | rfl <;> simp (disch := omega) only [ck1, bd1, bx1, bx2, aS_at, iS_at, upd_at, ↓reduceIte, Nat.reduceEqDiff, Nat.reduceAdd, Nat.reduceMul, Nat.reduceSub, Nat.reduceDiv, Nat.reduceLT, Nat.reduceLeDiff, Nat.reduceBEq, ne_eq, not_true_eq_false, not_false_eq_true, reduceCtorEq, if_true, if_false, eq_self, Nat.add_zero, Nat.zero_add, lit, lit_nn, I_nat, I_add, I_mul, I_sub, I_div, inb_t, I_ne, I_nn, nn_I, nn_lt, nn_le, lt_nn, le_nn, I_t, I_f, I_lt_t, I_lt_f, isb_0, isb_1, vz_0, vz_1, nn_nat] <;> exact u
      · by_cases d : x = t
        · subst d
          rcases (show q = 5 ∨ q = 6 ∨ q = 7 ∨ q = 8 by omega) with rfl | rfl | rfl | rfl <;> simp (disch := omega) only [ck1, bd1, bx1, bx2, aS_at, iS_at, upd_at, ↓reduceIte, Nat.reduceEqDiff, Nat.reduceAdd, Nat.reduceMul, Nat.reduceSub, Nat.reduceDiv, Nat.reduceLT, Nat.reduceLeDiff, Nat.reduceBEq, ne_eq, not_true_eq_false, not_false_eq_true, reduceCtorEq, if_true, if_false, eq_self, Nat.add_zero, Nat.zero_add, lit, lit_nn, I_nat, I_add, I_mul, I_sub, I_div, inb_t, I_ne, I_nn, nn_I, nn_lt, nn_le, lt_nn, le_nn, I_t, I_f, I_lt_t, I_lt_f, isb_0, isb_1, vz_0, vz_1, nn_nat]
        · have u := u2 q x h1 h2 (by omega)
          rcases (show q = 5 ∨ q = 6 ∨ q = 7 ∨ q = 8 by omega) with rfl | rfl | rfl | rfl <;> simp (disch := omega) only [ck1, bd1, bx1, bx2, aS_at, iS_at, upd_at, ↓reduceIte, Nat.reduceEqDiff, Nat.reduceAdd, Nat.reduceMul, Nat.reduceSub, Nat.reduceDiv, Nat.reduceLT, Nat.reduceLeDiff, Nat.reduceBEq, ne_eq, not_true_eq_false, not_false_eq_true, reduceCtorEq, if_true, if_false, eq_self, Nat.add_zero, Nat.zero_add, lit, lit_nn, I_nat, I_add, I_mul, I_sub, I_div, inb_t, I_ne, I_nn, nn_I, nn_lt, nn_le, lt_nn, le_nn, I_t, I_f, I_lt_t, I_lt_f, isb_0, isb_1, vz_0, vz_1, nn_nat, d] <;> exact u
      · simp (disch := omega) only [fX3_copyFrom_S64, ck1, bd1, bx1, bx2, aS_at, iS_at, upd_at, ↓reduceIte, Nat.reduceEqDiff, Nat.reduceAdd, Nat.reduceMul, Nat.reduceSub, Nat.reduceDiv, Nat.reduceLT, Nat.reduceLeDiff, Nat.reduceBEq, ne_eq, not_true_eq_false, not_false_eq_true, reduceCtorEq, if_true, if_false, eq_self, Nat.add_zero, Nat.zero_add, lit, lit_nn, I_nat, I_add, I_mul, I_sub, I_div, inb_t, I_ne, I_nn, nn_I, nn_lt, nn_le, lt_nn, le_nn, I_t, I_f, I_lt_t, I_lt_f, isb_0, isb_1, vz_0, vz_1, nn_nat, v6])
    (by
      intro c _ rec
      simp (disch := omega) only [fX3_copyFrom_S64, ck1, bd1, bx1, bx2, aS_at, iS_at, upd_at, ↓reduceIte, Nat.reduceEqDiff, Nat.reduceAdd, Nat.reduceMul, Nat.reduceSub, Nat.reduceDiv, Nat.reduceLT, Nat.reduceLeDiff, Nat.reduceBEq, ne_eq, not_true_eq_false, not_false_eq_true, reduceCtorEq, if_true, if_false, eq_self, Nat.add_zero, Nat.zero_add, lit, lit_nn, I_nat, I_add, I_mul, I_sub, I_div, inb_t, I_ne, I_nn, nn_I, nn_lt, nn_le, lt_nn, le_nn, I_t, I_f, I_lt_t, I_lt_f, isb_0, isb_1, vz_0, vz_1, nn_nat])
    30 0 a 1000 (by omega) (by omega) u
  refine ⟨iS b 9 (ct 9 0), ?_, ⟨fun q x h1 h2 hx => ?_, fun q x h1 h2 hx => ?_⟩, rfl⟩
  · have e1 : fX3_copyFrom cu ct = fX3_copyFrom_J62 a ct := by
      unfold fX3_copyFrom fX3_copyFrom_L2
      rw [lit]
      exact hl
    have e2 : fX3_copyFrom_J62 a ct = fX3_copyFrom_J124 b ct := by
      unfold fX3_copyFrom_J62 fX3_copyFrom_L64
      rw [lit]
      exact hm
    rw [e1, e2]
    rfl
  · rw [iS_at, if_neg (by omega)]; exact v.1 q x h1 h2 hx
  · rw [iS_at, if_neg (by omega)]; exact v.2 q x h1 h2 hx
theorem looks_eq (c d : St) : ∃ v, v < 2 ∧ fX3_looksLike c d = some (I v) ∧ (v = 1 ↔ (∀ j, j < 6 → c 1 j = d 1 j ∧ c 2 j = d 2 j ∧ c 3 j = d 3 j) ∧ ∀ k, k < 30 → c 6 k = d 6 k ∧ c 7 k = d 7 k) := by
  have s2 : (∀ k, k < 30 → c 6 k = d 6 k ∧ c 7 k = d 7 k) ∨ ¬ (∀ k, k < 30 → c 6 k = d 6 k ∧ c 7 k = d 7 k) := Classical.em _
  -- the ports
  have ports : ∀ d' k n, k + d' = 30 → d' < n → (∀ x, x < k → c 6 x = d 6 x ∧ c 7 x = d 7 x) → ∃ v, v < 2 ∧ loopN (fun k' a => fX3_looksLike_S63 k' c d a) n (I k) = some (I v) ∧ (v = 1 ↔ ∀ k, k < 30 → c 6 k = d 6 k ∧ c 7 k = d 7 k) := by
    intro d'
    induction d' with
    | zero =>
      intro k n hk hn hp
      obtain ⟨m, rfl⟩ : ∃ m, n = m + 1 := ⟨n - 1, by omega⟩
      have e : k = 30 := by omega
      subst e
      refine ⟨1, by omega, ?_, fun _ => hp, fun _ => rfl⟩
      rw [loopN_s]
      generalize loopN (fun k' a => fX3_looksLike_S63 k' c d a) m = rec
      simp (disch := omega) only [fX3_looksLike_S63, ck1, bd1, bx1, bx2, aS_at, iS_at, upd_at, ↓reduceIte, Nat.reduceEqDiff, Nat.reduceAdd, Nat.reduceMul, Nat.reduceSub, Nat.reduceDiv, Nat.reduceLT, Nat.reduceLeDiff, Nat.reduceBEq, ne_eq, not_true_eq_false, not_false_eq_true, reduceCtorEq, if_true, if_false, eq_self, Nat.add_zero, Nat.zero_add, lit, lit_nn, I_nat, I_add, I_mul, I_sub, I_div, inb_t, I_ne, I_nn, nn_I, nn_lt, nn_le, lt_nn, le_nn, I_t, I_f, I_lt_t, I_lt_f, isb_0, isb_1, vz_0, vz_1, nn_nat]
    | succ d' ih =>
      intro k n hk hn hp
      obtain ⟨m, rfl⟩ : ∃ m, n = m + 1 := ⟨n - 1, by omega⟩
      by_cases z1 : c 6 k = d 6 k
      · by_cases z2 : c 7 k = d 7 k
        · obtain ⟨v, h1, h2, h3⟩ := ih (k + 1) m (by omega) (by omega) (fun x hx => by
            by_cases e : x = k
            · rw [e]; exact ⟨z1, z2⟩
            · exact hp x (by omega))
          refine ⟨v, h1, ?_, h3⟩
          rw [← h2, loopN_s]
          generalize loopN (fun k' a => fX3_looksLike_S63 k' c d a) m = rec
          simp (disch := omega) only [fX3_looksLike_S63, ck1, bd1, bx1, bx2, aS_at, iS_at, upd_at, ↓reduceIte, Nat.reduceEqDiff, Nat.reduceAdd, Nat.reduceMul, Nat.reduceSub, Nat.reduceDiv, Nat.reduceLT, Nat.reduceLeDiff, Nat.reduceBEq, ne_eq, not_true_eq_false, not_false_eq_true, reduceCtorEq, if_true, if_false, eq_self, Nat.add_zero, Nat.zero_add, lit, lit_nn, I_nat, I_add, I_mul, I_sub, I_div, inb_t, I_ne, I_nn, nn_I, nn_lt, nn_le, lt_nn, le_nn, I_t, I_f, I_lt_t, I_lt_f, isb_0, isb_1, vz_0, vz_1, nn_nat, z1, z2]
        · refine ⟨0, by omega, ?_, fun e => by omega, fun e => absurd (e k (by omega)).2 z2⟩
          rw [loopN_s]
          generalize loopN (fun k' a => fX3_looksLike_S63 k' c d a) m = rec
          simp (disch := omega) only [fX3_looksLike_S63, ck1, bd1, bx1, bx2, aS_at, iS_at, upd_at, ↓reduceIte, Nat.reduceEqDiff, Nat.reduceAdd, Nat.reduceMul, Nat.reduceSub, Nat.reduceDiv, Nat.reduceLT, Nat.reduceLeDiff, Nat.reduceBEq, ne_eq, not_true_eq_false, not_false_eq_true, reduceCtorEq, if_true, if_false, eq_self, Nat.add_zero, Nat.zero_add, lit, lit_nn, I_nat, I_add, I_mul, I_sub, I_div, inb_t, I_ne, I_nn, nn_I, nn_lt, nn_le, lt_nn, le_nn, I_t, I_f, I_lt_t, I_lt_f, isb_0, isb_1, vz_0, vz_1, nn_nat, z1, z2]
      · refine ⟨0, by omega, ?_, fun e => by omega, fun e => absurd (e k (by omega)).1 z1⟩
        rw [loopN_s]
        generalize loopN (fun k' a => fX3_looksLike_S63 k' c d a) m = rec
        simp (disch := omega) only [fX3_looksLike_S63, ck1, bd1, bx1, bx2, aS_at, iS_at, upd_at, ↓reduceIte, Nat.reduceEqDiff, Nat.reduceAdd, Nat.reduceMul, Nat.reduceSub, Nat.reduceDiv, Nat.reduceLT, Nat.reduceLeDiff, Nat.reduceBEq, ne_eq, not_true_eq_false, not_false_eq_true, reduceCtorEq, if_true, if_false, eq_self, Nat.add_zero, Nat.zero_add, lit, lit_nn, I_nat, I_add, I_mul, I_sub, I_div, inb_t, I_ne, I_nn, nn_I, nn_lt, nn_le, lt_nn, le_nn, I_t, I_f, I_lt_t, I_lt_f, isb_0, isb_1, vz_0, vz_1, nn_nat, z1]
  have sws : ∀ d' k n, k + d' = 6 → d' < n → (∀ x, x < k → c 1 x = d 1 x ∧ c 2 x = d 2 x ∧ c 3 x = d 3 x) → ∃ v, v < 2 ∧ loopN (fun k' a => fX3_looksLike_S2 k' c d a) n (I k) = some (I v) ∧ (v = 1 ↔ (∀ j, j < 6 → c 1 j = d 1 j ∧ c 2 j = d 2 j ∧ c 3 j = d 3 j) ∧ ∀ k, k < 30 → c 6 k = d 6 k ∧ c 7 k = d 7 k) := by
    intro d'
    induction d' with
    | zero =>
      intro k n hk hn hp
      obtain ⟨m, rfl⟩ : ∃ m, n = m + 1 := ⟨n - 1, by omega⟩
      have e : k = 6 := by omega
      subst e
      obtain ⟨v, h1, h2, h3⟩ := ports 30 0 1000 (by omega) (by omega) (fun x hx => by omega)
      refine ⟨v, h1, ?_, fun e => ⟨hp, h3.mp e⟩, fun e => h3.mpr e.2⟩
      rw [loopN_s]
      generalize loopN (fun k' a => fX3_looksLike_S2 k' c d a) m = rec
      have e : fX3_looksLike_S2 rec c d (I 6) = fX3_looksLike_J61 c d := by
        simp (disch := omega) only [fX3_looksLike_S2, ck1, bd1, bx1, bx2, aS_at, iS_at, upd_at, ↓reduceIte, Nat.reduceEqDiff, Nat.reduceAdd, Nat.reduceMul, Nat.reduceSub, Nat.reduceDiv, Nat.reduceLT, Nat.reduceLeDiff, Nat.reduceBEq, ne_eq, not_true_eq_false, not_false_eq_true, reduceCtorEq, if_true, if_false, eq_self, Nat.add_zero, Nat.zero_add, lit, lit_nn, I_nat, I_add, I_mul, I_sub, I_div, inb_t, I_ne, I_nn, nn_I, nn_lt, nn_le, lt_nn, le_nn, I_t, I_f, I_lt_t, I_lt_f, isb_0, isb_1, vz_0, vz_1, nn_nat]
      refine e.trans ?_
      unfold fX3_looksLike_J61 fX3_looksLike_L63
      rw [lit]
      exact h2
    | succ d' ih =>
      intro k n hk hn hp
      obtain ⟨m, rfl⟩ : ∃ m, n = m + 1 := ⟨n - 1, by omega⟩
      by_cases z1 : c 1 k = d 1 k
      · by_cases z2 : c 2 k = d 2 k
        · by_cases z3 : c 3 k = d 3 k
          · obtain ⟨v, h1, h2, h3⟩ := ih (k + 1) m (by omega) (by omega) (fun x hx => by
              by_cases e : x = k
              · rw [e]; exact ⟨z1, z2, z3⟩
              · exact hp x (by omega))
            refine ⟨v, h1, ?_, h3⟩
            rw [← h2, loopN_s]
            generalize loopN (fun k' a => fX3_looksLike_S2 k' c d a) m = rec
            simp (disch := omega) only [fX3_looksLike_S2, ck1, bd1, bx1, bx2, aS_at, iS_at, upd_at, ↓reduceIte, Nat.reduceEqDiff, Nat.reduceAdd, Nat.reduceMul, Nat.reduceSub, Nat.reduceDiv, Nat.reduceLT, Nat.reduceLeDiff, Nat.reduceBEq, ne_eq, not_true_eq_false, not_false_eq_true, reduceCtorEq, if_true, if_false, eq_self, Nat.add_zero, Nat.zero_add, lit, lit_nn, I_nat, I_add, I_mul, I_sub, I_div, inb_t, I_ne, I_nn, nn_I, nn_lt, nn_le, lt_nn, le_nn, I_t, I_f, I_lt_t, I_lt_f, isb_0, isb_1, vz_0, vz_1, nn_nat, z1, z2, z3]
          · refine ⟨0, by omega, ?_, fun e => by omega, fun e => absurd (e.1 k (by omega)).2.2 z3⟩
            rw [loopN_s]
            generalize loopN (fun k' a => fX3_looksLike_S2 k' c d a) m = rec
            simp (disch := omega) only [fX3_looksLike_S2, ck1, bd1, bx1, bx2, aS_at, iS_at, upd_at, ↓reduceIte, Nat.reduceEqDiff, Nat.reduceAdd, Nat.reduceMul, Nat.reduceSub, Nat.reduceDiv, Nat.reduceLT, Nat.reduceLeDiff, Nat.reduceBEq, ne_eq, not_true_eq_false, not_false_eq_true, reduceCtorEq, if_true, if_false, eq_self, Nat.add_zero, Nat.zero_add, lit, lit_nn, I_nat, I_add, I_mul, I_sub, I_div, inb_t, I_ne, I_nn, nn_I, nn_lt, nn_le, lt_nn, le_nn, I_t, I_f, I_lt_t, I_lt_f, isb_0, isb_1, vz_0, vz_1, nn_nat, z1, z2, z3]
        · refine ⟨0, by omega, ?_, fun e => by omega, fun e => absurd (e.1 k (by omega)).2.1 z2⟩
          rw [loopN_s]
          generalize loopN (fun k' a => fX3_looksLike_S2 k' c d a) m = rec
          simp (disch := omega) only [fX3_looksLike_S2, ck1, bd1, bx1, bx2, aS_at, iS_at, upd_at, ↓reduceIte, Nat.reduceEqDiff, Nat.reduceAdd, Nat.reduceMul, Nat.reduceSub, Nat.reduceDiv, Nat.reduceLT, Nat.reduceLeDiff, Nat.reduceBEq, ne_eq, not_true_eq_false, not_false_eq_true, reduceCtorEq, if_true, if_false, eq_self, Nat.add_zero, Nat.zero_add, lit, lit_nn, I_nat, I_add, I_mul, I_sub, I_div, inb_t, I_ne, I_nn, nn_I, nn_lt, nn_le, lt_nn, le_nn, I_t, I_f, I_lt_t, I_lt_f, isb_0, isb_1, vz_0, vz_1, nn_nat, z1, z2]
      · refine ⟨0, by omega, ?_, fun e => by omega, fun e => absurd (e.1 k (by omega)).1 z1⟩
        rw [loopN_s]
        generalize loopN (fun k' a => fX3_looksLike_S2 k' c d a) m = rec
        simp (disch := omega) only [fX3_looksLike_S2, ck1, bd1, bx1, bx2, aS_at, iS_at, upd_at, ↓reduceIte, Nat.reduceEqDiff, Nat.reduceAdd, Nat.reduceMul, Nat.reduceSub, Nat.reduceDiv, Nat.reduceLT, Nat.reduceLeDiff, Nat.reduceBEq, ne_eq, not_true_eq_false, not_false_eq_true, reduceCtorEq, if_true, if_false, eq_self, Nat.add_zero, Nat.zero_add, lit, lit_nn, I_nat, I_add, I_mul, I_sub, I_div, inb_t, I_ne, I_nn, nn_I, nn_lt, nn_le, lt_nn, le_nn, I_t, I_f, I_lt_t, I_lt_f, isb_0, isb_1, vz_0, vz_1, nn_nat, z1]
  obtain ⟨v, h1, h2, h3⟩ := sws 6 0 1000 (by omega) (by omega) (fun x hx => by omega)
  refine ⟨v, h1, ?_, h3⟩
  unfold fX3_looksLike fX3_looksLike_L2
  rw [lit]
  exact h2
theorem waits_eq (c : St) (hn : ∀ k, k < 30 → ∃ q, q < 2147483648 ∧ c 8 k = I q) : ∃ v, v < 2 ∧ fX3_hasWaitingPort c = some (I v) ∧ (v = 0 ↔ ∀ k, k < 30 → c 8 k = I 0) := by
  have ports : ∀ d' k n, k + d' = 30 → d' < n → (∀ x, x < k → c 8 x = I 0) → ∃ v, v < 2 ∧ loopN (fun k' a => fX3_hasWaitingPort_S2 k' c a) n (I k) = some (I v) ∧ (v = 0 ↔ ∀ k, k < 30 → c 8 k = I 0) := by
    intro d'
    induction d' with
    | zero =>
      intro k n hk hn' hp
      obtain ⟨m, rfl⟩ : ∃ m, n = m + 1 := ⟨n - 1, by omega⟩
      have e : k = 30 := by omega
      subst e
      refine ⟨0, by omega, ?_, fun _ => hp, fun _ => rfl⟩
      rw [loopN_s]
      generalize loopN (fun k' a => fX3_hasWaitingPort_S2 k' c a) m = rec
      simp (disch := omega) only [fX3_hasWaitingPort_S2, ck1, bd1, bx1, bx2, aS_at, iS_at, upd_at, ↓reduceIte, Nat.reduceEqDiff, Nat.reduceAdd, Nat.reduceMul, Nat.reduceSub, Nat.reduceDiv, Nat.reduceLT, Nat.reduceLeDiff, Nat.reduceBEq, ne_eq, not_true_eq_false, not_false_eq_true, reduceCtorEq, if_true, if_false, eq_self, Nat.add_zero, Nat.zero_add, lit, lit_nn, I_nat, I_add, I_mul, I_sub, I_div, inb_t, I_ne, I_nn, nn_I, nn_lt, nn_le, lt_nn, le_nn, I_t, I_f, I_lt_t, I_lt_f, isb_0, isb_1, vz_0, vz_1, nn_nat]
    | succ d' ih =>
      intro k n hk hn' hp
      obtain ⟨m, rfl⟩ : ∃ m, n = m + 1 := ⟨n - 1, by omega⟩
      obtain ⟨q, hq, eq⟩ := hn k (by omega)
      by_cases z : q = 0
      · subst z
        obtain ⟨v, h1, h2, h3⟩ := ih (k + 1) m (by omega) (by omega) (fun x hx => by
          by_cases e : x = k
          · rw [e]; exact eq
          · exact hp x (by omega))
        refine ⟨v, h1, ?_, h3⟩
        rw [← h2, loopN_s]
        generalize loopN (fun k' a => fX3_hasWaitingPort_S2 k' c a) m = rec
        simp (disch := omega) only [fX3_hasWaitingPort_S2, ck1, bd1, bx1, bx2, aS_at, iS_at, upd_at, ↓reduceIte, Nat.reduceEqDiff, Nat.reduceAdd, Nat.reduceMul, Nat.reduceSub, Nat.reduceDiv, Nat.reduceLT, Nat.reduceLeDiff, Nat.reduceBEq, ne_eq, not_true_eq_false, not_false_eq_true, reduceCtorEq, if_true, if_false, eq_self, Nat.add_zero, Nat.zero_add, lit, lit_nn, I_nat, I_add, I_mul, I_sub, I_div, inb_t, I_ne, I_nn, nn_I, nn_lt, nn_le, lt_nn, le_nn, I_t, I_f, I_lt_t, I_lt_f, isb_0, isb_1, vz_0, vz_1, nn_nat, eq]
      · refine ⟨1, by omega, ?_, fun e => by omega, fun e => ?_⟩
        · rw [loopN_s]
          generalize loopN (fun k' a => fX3_hasWaitingPort_S2 k' c a) m = rec
          simp (disch := omega) only [fX3_hasWaitingPort_S2, ck1, bd1, bx1, bx2, aS_at, iS_at, upd_at, ↓reduceIte, Nat.reduceEqDiff, Nat.reduceAdd, Nat.reduceMul, Nat.reduceSub, Nat.reduceDiv, Nat.reduceLT, Nat.reduceLeDiff, Nat.reduceBEq, ne_eq, not_true_eq_false, not_false_eq_true, reduceCtorEq, if_true, if_false, eq_self, Nat.add_zero, Nat.zero_add, lit, lit_nn, I_nat, I_add, I_mul, I_sub, I_div, inb_t, I_ne, I_nn, nn_I, nn_lt, nn_le, lt_nn, le_nn, I_t, I_f, I_lt_t, I_lt_f, isb_0, isb_1, vz_0, vz_1, nn_nat, eq]
        · have := e k (by omega)
          rw [eq, I_inj hq (by omega)] at this
          exact absurd this z
  obtain ⟨v, h1, h2, h3⟩ := ports 30 0 1000 (by omega) (by omega) (fun x hx => by omega)
  refine ⟨v, h1, ?_, h3⟩
  unfold fX3_hasWaitingPort fX3_hasWaitingPort_L2
  rw [lit]
  exact h2

/-! ===== what rest says ===== -/
theorem p_copy (c ct : St) : Pc (fX3_copyFrom c ct) (fun d => (∀ s, s < 6 → d 1 s = ct 1 s ∧ d 2 s = ct 2 s ∧ d 3 s = ct 3 s ∧ d 4 s = ct 4 s) ∧ ∀ k, k < 30 → d 5 k = ct 5 k ∧ d 6 k = vp_nar .boolean (ct 6 k) ∧ d 7 k = ct 7 k ∧ d 8 k = ct 8 k) := by
  unfold fX3_copyFrom fX3_copyFrom_L2
  refine pc_loop (fun a => ∃ t, t ≤ 6 ∧ a.2 = I t ∧ ∀ s, s < t → a.1 1 s = ct 1 s ∧ a.1 2 s = ct 2 s ∧ a.1 3 s = ct 3 s ∧ a.1 4 s = ct 4 s) (fun rec hr a ha => ?_) _ _ ⟨0, by omega, rfl, fun s hs => by omega⟩
  obtain ⟨e, x⟩ := a
  obtain ⟨t, ht, ex, h1⟩ := ha
  have ex : x = I t := ex
  subst ex
  dsimp only at h1
  unfold fX3_copyFrom_S2
  refine pc_if (fun q => ?_) (fun q => pc_ck fun _ => pc_ck fun _ => pc_ck fun _ => pc_ck fun _ => pc_ck fun _ => pc_ck fun _ => pc_ck fun _ => pc_ck fun _ => hr _ ⟨t + 1, ?_, I_succ t, fun s hs => ?_⟩)
  · have t6 : t = 6 := by
      dsimp only at q
      rw [lit, I_le (by omega) (by omega)] at q
      omega
    subst t6
    unfold fX3_copyFrom_J62 fX3_copyFrom_L64
    refine pc_loop (fun a => ∃ t, t ≤ 30 ∧ a.2 = I t ∧ (∀ s, s < 6 → a.1 1 s = ct 1 s ∧ a.1 2 s = ct 2 s ∧ a.1 3 s = ct 3 s ∧ a.1 4 s = ct 4 s) ∧ ∀ k, k < t → a.1 5 k = ct 5 k ∧ a.1 6 k = vp_nar .boolean (ct 6 k) ∧ a.1 7 k = ct 7 k ∧ a.1 8 k = ct 8 k) (fun rec2 hr2 a ha => ?_) _ _ ⟨0, by omega, rfl, h1, fun s hs => by omega⟩
    obtain ⟨e, x⟩ := a
    obtain ⟨t, ht, ex, g1, g2⟩ := ha
    have ex : x = I t := ex
    subst ex
    dsimp only at g1 g2
    unfold fX3_copyFrom_S64
    refine pc_if (fun q => ?_) (fun q => pc_ck fun _ => pc_ck fun _ => pc_ck fun _ => pc_ck fun _ => pc_ck fun _ => pc_ck fun _ => pc_ck fun _ => pc_ck fun _ => hr2 _ ⟨t + 1, ?_, I_succ t, fun s hs => ?_, fun k hk => ?_⟩)
    · dsimp only at q
      rw [lit, I_le (by omega) (by omega)] at q
      unfold fX3_copyFrom_J124
      refine pc_some ⟨fun s hs => ?_, fun k hk => ?_⟩
      · simp (disch := omega) only [ck1, bd1, bx1, bx2, aS_at, iS_at, upd_at, ↓reduceIte, Nat.reduceEqDiff, Nat.reduceAdd, Nat.reduceMul, Nat.reduceSub, Nat.reduceDiv, Nat.reduceLT, Nat.reduceLeDiff, Nat.reduceBEq, ne_eq, not_true_eq_false, not_false_eq_true, reduceCtorEq, if_true, if_false, eq_self, Nat.add_zero, Nat.zero_add, lit, lit_nn, I_nat, I_add, I_mul, I_sub, I_div, inb_t, I_ne, I_nn, nn_I, nn_lt, nn_le, lt_nn, le_nn, I_t, I_f, I_lt_t, I_lt_f, isb_0, isb_1, vz_0, vz_1, nn_nat]; exact g1 s hs
      · simp (disch := omega) only [ck1, bd1, bx1, bx2, aS_at, iS_at, upd_at, ↓reduceIte, Nat.reduceEqDiff, Nat.reduceAdd, Nat.reduceMul, Nat.reduceSub, Nat.reduceDiv, Nat.reduceLT, Nat.reduceLeDiff, Nat.reduceBEq, ne_eq, not_true_eq_false, not_false_eq_true, reduceCtorEq, if_true, if_false, eq_self, Nat.add_zero, Nat.zero_add, lit, lit_nn, I_nat, I_add, I_mul, I_sub, I_div, inb_t, I_ne, I_nn, nn_I, nn_lt, nn_le, lt_nn, le_nn, I_t, I_f, I_lt_t, I_lt_f, isb_0, isb_1, vz_0, vz_1, nn_nat]; exact g2 k (by omega)
    · dsimp only at q
      rw [lit, I_le (by omega) (by omega)] at q
      omega
    · simp (disch := omega) only [ck1, bd1, bx1, bx2, aS_at, iS_at, upd_at, ↓reduceIte, Nat.reduceEqDiff, Nat.reduceAdd, Nat.reduceMul, Nat.reduceSub, Nat.reduceDiv, Nat.reduceLT, Nat.reduceLeDiff, Nat.reduceBEq, ne_eq, not_true_eq_false, not_false_eq_true, reduceCtorEq, if_true, if_false, eq_self, Nat.add_zero, Nat.zero_add, lit, lit_nn, I_nat, I_add, I_mul, I_sub, I_div, inb_t, I_ne, I_nn, nn_I, nn_lt, nn_le, lt_nn, le_nn, I_t, I_f, I_lt_t, I_lt_f, isb_0, isb_1, vz_0, vz_1, nn_nat]; exact g1 s hs
    · dsimp only at q
      rw [lit, I_le (by omega) (by omega)] at q
      simp (disch := omega) only [ck1, bd1, bx1, bx2, aS_at, iS_at, upd_at, ↓reduceIte, Nat.reduceEqDiff, Nat.reduceAdd, Nat.reduceMul, Nat.reduceSub, Nat.reduceDiv, Nat.reduceLT, Nat.reduceLeDiff, Nat.reduceBEq, ne_eq, not_true_eq_false, not_false_eq_true, reduceCtorEq, if_true, if_false, eq_self, Nat.add_zero, Nat.zero_add, lit, lit_nn, I_nat, I_add, I_mul, I_sub, I_div, inb_t, I_ne, I_nn, nn_I, nn_lt, nn_le, lt_nn, le_nn, I_t, I_f, I_lt_t, I_lt_f, isb_0, isb_1, vz_0, vz_1, nn_nat]
      by_cases v : k = t
      · subst v
        rw [if_pos rfl, if_pos rfl, if_pos rfl, if_pos rfl]
        exact ⟨rfl, rfl, rfl, rfl⟩
      · rw [if_neg v, if_neg v, if_neg v, if_neg v]
        exact g2 k (by omega)
  · dsimp only at q
    rw [lit, I_le (by omega) (by omega)] at q
    omega
  · dsimp only at q
    rw [lit, I_le (by omega) (by omega)] at q
    simp (disch := omega) only [ck1, bd1, bx1, bx2, aS_at, iS_at, upd_at, ↓reduceIte, Nat.reduceEqDiff, Nat.reduceAdd, Nat.reduceMul, Nat.reduceSub, Nat.reduceDiv, Nat.reduceLT, Nat.reduceLeDiff, Nat.reduceBEq, ne_eq, not_true_eq_false, not_false_eq_true, reduceCtorEq, if_true, if_false, eq_self, Nat.add_zero, Nat.zero_add, lit, lit_nn, I_nat, I_add, I_mul, I_sub, I_div, inb_t, I_ne, I_nn, nn_I, nn_lt, nn_le, lt_nn, le_nn, I_t, I_f, I_lt_t, I_lt_f, isb_0, isb_1, vz_0, vz_1, nn_nat]
    by_cases v : s = t
    · subst v
      rw [if_pos rfl, if_pos rfl, if_pos rfl, if_pos rfl]
      exact ⟨rfl, rfl, rfl, rfl⟩
    · rw [if_neg v, if_neg v, if_neg v, if_neg v]
      exact h1 s (by omega)
theorem p_looks (c ct : St) : Pc (fX3_looksLike c ct) (fun r => r = I 0 ∨ (r = I 1 ∧ (∀ s, s < 6 → c 1 s = ct 1 s ∧ c 2 s = ct 2 s ∧ c 3 s = ct 3 s) ∧ ∀ k, k < 30 → c 6 k = ct 6 k ∧ c 7 k = ct 7 k)) := by
  unfold fX3_looksLike fX3_looksLike_L2
  refine pc_loop (fun a => ∃ t, t ≤ 6 ∧ a = I t ∧ ∀ s, s < t → c 1 s = ct 1 s ∧ c 2 s = ct 2 s ∧ c 3 s = ct 3 s) (fun rec hr a ha => ?_) _ _ ⟨0, by omega, rfl, fun s hs => by omega⟩
  obtain ⟨t, ht, rfl, h1⟩ := ha
  unfold fX3_looksLike_S2
  refine pc_if (fun q => ?_) (fun q => pc_ck fun _ => pc_ck fun _ => pc_if (fun e1 => pc_ck fun _ => pc_ck fun _ => pc_if (fun e2 => pc_ck fun _ => pc_ck fun _ => pc_if (fun e3 => hr _ ⟨t + 1, ?_, I_succ t, fun s hs => ?_⟩) (fun _ => pc_some (Or.inl rfl))) (fun _ => pc_some (Or.inl rfl))) (fun _ => pc_some (Or.inl rfl)))
  · have t6 : t = 6 := by
      rw [lit, I_le (by omega) (by omega)] at q
      omega
    subst t6
    unfold fX3_looksLike_J61 fX3_looksLike_L63
    refine pc_loop (fun a => ∃ t, t ≤ 30 ∧ a = I t ∧ ∀ k, k < t → c 6 k = ct 6 k ∧ c 7 k = ct 7 k) (fun rec2 hr2 a ha => ?_) _ _ ⟨0, by omega, rfl, fun s hs => by omega⟩
    obtain ⟨t, ht, rfl, g1⟩ := ha
    unfold fX3_looksLike_S63
    refine pc_if (fun q => pc_some (Or.inr ⟨rfl, h1, fun k hk => ?_⟩)) (fun q => pc_ck fun _ => pc_ck fun _ => pc_if (fun e1 => pc_ck fun _ => pc_ck fun _ => pc_if (fun e2 => hr2 _ ⟨t + 1, ?_, I_succ t, fun k hk => ?_⟩) (fun _ => pc_some (Or.inl rfl))) (fun _ => pc_some (Or.inl rfl)))
    · rw [lit, I_le (by omega) (by omega)] at q
      exact g1 k (by omega)
    · rw [lit, I_le (by omega) (by omega)] at q
      omega
    · rw [lit, I_le (by omega) (by omega)] at q
      rw [I_nat (by omega)] at e1 e2
      by_cases v : k = t
      · subst v; exact ⟨e1, e2⟩
      · exact g1 k (by omega)
  · rw [lit, I_le (by omega) (by omega)] at q
    omega
  · rw [lit, I_le (by omega) (by omega)] at q
    rw [I_nat (by omega)] at e1 e2 e3
    by_cases v : s = t
    · subst v; exact ⟨e1, e2, e3⟩
    · exact h1 s (by omega)
theorem p_waits (c : St) : Pc (fX3_hasWaitingPort c) (fun r => r = I 1 ∨ (r = I 0 ∧ ∀ k, k < 30 → c 8 k ≤ 0)) := by
  unfold fX3_hasWaitingPort fX3_hasWaitingPort_L2
  refine pc_loop (fun a => ∃ t, t ≤ 30 ∧ a = I t ∧ ∀ k, k < t → c 8 k ≤ 0) (fun rec hr a ha => ?_) _ _ ⟨0, by omega, rfl, fun s hs => by omega⟩
  obtain ⟨t, ht, rfl, g1⟩ := ha
  unfold fX3_hasWaitingPort_S2
  refine pc_if (fun q => pc_some (Or.inr ⟨rfl, fun k hk => ?_⟩)) (fun q => pc_ck fun _ => pc_if (fun e1 => hr _ ⟨t + 1, ?_, I_succ t, fun k hk => ?_⟩) (fun _ => pc_some (Or.inl rfl)))
  · rw [lit, I_le (by omega) (by omega)] at q
    exact g1 k (by omega)
  · rw [lit, I_le (by omega) (by omega)] at q
    omega
  · rw [lit, I_le (by omega) (by omega)] at q
    rw [I_nat (by omega)] at e1
    by_cases v : k = t
    · subst v; exact e1
    · exact g1 k (by omega)
/-- before: what a switch holds is better than what is told to it -/
def Lt (cw : St) (R C : Nat → Nat) (s t : Nat) : Prop := nmq cw (R s) < nmq cw (R t) ∨ (R s = R t ∧ (C s < C t ∨ (C s = C t ∧ nmq cw s < nmq cw t)))
theorem hb_eval {cw d : St} (hr : RankC cw) {R C : Nat → Nat} {k t : Nat} (hk : k < 30) (ht : t < 6) (et : pe cw k / 5 = t) (ew : cw 0 k = I (pe cw k)) (hp : pe cw k < 30) (r1 : R (k / 5) < 6) (r2 : R t < 6) (c1 : C (k / 5) < 2000) (c2 : C t < 2000) (e1 : d 1 (k / 5) = I (R (k / 5))) (e2 : d 2 (k / 5) = I (C (k / 5))) (e3 : d 10 k = I (R t)) (e4 : d 11 k = I (C t)) : (Lt cw R C (k / 5) t ∧ fX3_isHeldBetter d cw (I k) = some (I 1)) ∨ (¬ Lt cw R C (k / 5) t ∧ fX3_isHeldBetter d cw (I k) = some (I 0)) := by
  have i5 := inb_t (show k / 5 < 6 by omega) (show 6 ≤ 2147483648 by omega)
  have i30 := inb_t hk (show 30 ≤ 2147483648 by omega)
  have n5 := I_nat (show k / 5 < 2147483648 by omega)
  have n30 := I_nat (show k < 2147483648 by omega)
  unfold fX3_isHeldBetter
  rw [div5 (by omega), i5, i30, ck1, ck1, ck1, ck1, n5, n30, e1, e2, e3, e4, ew, div5 (by omega), et]
  by_cases a : R (k / 5) = R t
  · rw [if_pos (by rw [a])]
    by_cases b : C (k / 5) = C t
    · rw [if_pos (by rw [b]), name_q hr (show k / 5 < 6 by omega) ht, bd1]
      by_cases c : nmq cw (k / 5) < nmq cw t
      · left
        rw [if_pos c]
        exact ⟨Or.inr ⟨a, Or.inr ⟨b, c⟩⟩, rfl⟩
      · right
        rw [if_neg c]
        refine ⟨?_, rfl⟩
        rintro (z | ⟨-, z | ⟨-, z⟩⟩)
        · rw [a] at z; omega
        · omega
        · exact c z
    · rw [if_neg (by rw [I_inj (by omega) (by omega)]; exact b)]
      by_cases c : C t ≤ C (k / 5)
      · right
        rw [if_pos (by rw [I_le (by omega) (by omega)]; exact c)]
        refine ⟨?_, rfl⟩
        rintro (z | ⟨-, z | ⟨z, -⟩⟩)
        · rw [a] at z; omega
        · omega
        · exact b z
      · left
        rw [if_neg (by rw [I_le (by omega) (by omega)]; exact c)]
        exact ⟨Or.inr ⟨a, Or.inl (by omega)⟩, rfl⟩
  · rw [if_neg (by rw [I_inj (by omega) (by omega)]; exact a), ck1, ck1, name_q hr r1 r2, bd1]
    by_cases c : nmq cw (R (k / 5)) < nmq cw (R t)
    · left
      rw [if_pos c]
      exact ⟨Or.inl c, rfl⟩
    · right
      rw [if_neg c]
      refine ⟨?_, rfl⟩
      rintro (z | ⟨z, -⟩)
      · exact c z
      · exact a z
theorem rel_rp {N : Nat} {cs cw ct cl cb mm : St} (h : Rel N cs cw ct cl cb mm) {k : Nat} (hk : k < 30) (e : ct 7 k = I 1) : ct 4 (k / 5) = I (k % 5) := by
  have p := (h.2.2.2.2.2.2.2.1 k hk).2.2.2.2.2.2.2.1
  have c := (h.2.2.2.2.2.2.2.2.2.2.2.2.2.2.2.1 k hk).2.1
  have t := (h.2.2.2.2.2.2.2.2.2.2.2.2.2.2.1 (k / 5) (by omega)).2.2.2.2
  rw [c] at e
  refine t (k % 5) (by omega) ?_
  rw [p e]
  congr 1
  omega
theorem rel_wait {N : Nat} {cs cw ct cl cb mm : St} (h : Rel N cs cw ct cl cb mm) {k : Nat} (hk : k < 30) (h0 : cw 0 k ≠ nn) (h6 : ct 6 k = I 0) : ∃ q, q ≤ 2 ∧ ct 8 k = I q := by
  obtain ⟨q, q1, q2, q3⟩ := (h.2.2.2.2.2.2.2.1 k hk).2.2.2.2.2.2.2.2
  have c := h.2.2.2.2.2.2.2.2.2.2.2.2.2.2.2.1 k hk
  have w := (h.2.2.2.2.2.2.2.2.2.2.1 k hk).1
  have h3 : (mm 3) k ≠ nn := by rw [← w]; exact h0
  have h12 : (mm 12) k = I 0 := by rw [← c.1]; exact h6
  exact ⟨q, q3 h3 h12, by rw [c.2.2.2.2.2.2.2 h3 h12]; exact q2⟩

/-- the same for a family of loops at once -/
theorem loop_upf {α β σ ι : Type} {step : ι → (α → Option β) → α → Option β} (emb : Nat → σ → α) (N : Nat) (P : Nat → σ → Prop) (ex : ι → σ → Option β)
    (hb : ∀ k s, k < N → P k s → ∃ s', P (k + 1) s' ∧ ∀ t rec, step t rec (emb k s) = rec (emb (k + 1) s'))
    (he : ∀ s, P N s → ∀ t rec, step t rec (emb N s) = ex t s) :
    ∀ d k s n, k + d = N → d < n → P k s → ∃ s', P N s' ∧ ∀ t, loopN (step t) n (emb k s) = ex t s' := by
  intro d
  induction d with
  | zero =>
    intro k s n hk hn hP
    have e : k = N := by omega
    subst e
    obtain ⟨m, rfl⟩ : ∃ m, n = m + 1 := ⟨n - 1, by omega⟩
    exact ⟨s, hP, fun t => he s hP t _⟩
  | succ d ih =>
    intro k s n hk hn hP
    obtain ⟨m, rfl⟩ : ∃ m, n = m + 1 := ⟨n - 1, by omega⟩
    obtain ⟨s', hP', hs⟩ := hb k s (by omega) hP
    obtain ⟨s2, h2, h3⟩ := ih (k + 1) s' m (by omega) (by omega) hP'
    exact ⟨s2, h2, fun t => (hs t _).trans (h3 t)⟩
theorem dn_lt {a b : Nat} (ha : a < 2147483648) (hb : b < 2147483648) : (I a + nn < I b) = (a ≤ b) := by
  by_cases h : a = 0
  · subst h
    have e : I 0 + nn = nn := by decide
    rw [e, nn_lt hb]
    exact (eq_true (by omega)).symm
  · obtain ⟨c, rfl⟩ : ∃ c, a = c + 1 := ⟨a - 1, by omega⟩
    have e : I (c + 1) + nn = I c := by
      have e2 : nn = - I 1 := rfl
      rw [e2, ← Int32.sub_eq_add_neg, I_sub (by omega)]
      rfl
    rw [e, I_lt (by omega) hb]
    exact propext ⟨fun h => by omega, fun h => by omega⟩
theorem dn_s (c : Nat) : I (c + 1) + nn = I c := by
  have e2 : nn = - I 1 := rfl
  rw [e2, ← Int32.sub_eq_add_neg, I_sub (by omega)]
  rfl
theorem sub_dn {a : Nat} : I a - I 1 = I a + nn := by
  have e2 : nn = - I 1 := rfl
  rw [e2, ← Int32.sub_eq_add_neg]
/-- rows are taken out from the last one down, those that are bad -/
theorem down_ent {β ι : Type} {step : ι → (St × Int32 → Option β) → St × Int32 → Option β} {m : St} {s n : Nat} {P : Nat → Nat} {c0 c1 : Nat → Int32} (hs : s < 6) (h : Ent (m 24) (m 25) (m 26) (m 27) (m 28) s n P c0 c1) (ex : ι → St → Option β) (bad : Int32 → Int32 → Prop)
    (hst : ∀ t rec mk, step t rec (mk, I (8 * s) + nn) = ex t mk)
    (hok : ∀ t rec mk i, mk 0 = m 0 → i < 8 → ¬ bad (mk 27 (8 * s + i)) (mk 28 (8 * s + i)) → step t rec (mk, I (8 * s + i)) = rec (mk, I (8 * s + i) + nn))
    (hbad : ∀ t rec mk mk' i, mk 0 = m 0 → i < 8 → bad (mk 27 (8 * s + i)) (mk 28 (8 * s + i)) → fX6_drops mk (I s) (I (8 * s + i)) = some mk' → step t rec (mk, I (8 * s + i)) = rec (mk', I (8 * s + i) + nn)) :
    ∃ m' n' P' d0, (∀ t, loopN (step t) 1000 (m, I (8 * s + n) + nn) = ex t m') ∧ Fr s m m' ∧ Ent (m' 24) (m' 25) (m' 26) (m' 27) (m' 28) s n' P' d0 c1 ∧ ∀ o, o < 30 → (c0 o ≠ nn ∧ bad (c0 o) (c1 o) → d0 o = nn) ∧ (¬ (c0 o ≠ nn ∧ bad (c0 o) (c1 o)) → d0 o = c0 o) := by
  have hn := h.1
  obtain ⟨Q, eQ⟩ : ∃ Q : Nat → St → Prop, Q = fun j mk => ∃ n' P' d0, Fr s m mk ∧ Ent (mk 24) (mk 25) (mk 26) (mk 27) (mk 28) s n' P' d0 c1 ∧ n - j ≤ n' ∧ (∀ i, n - j ≤ i → i < n' → ¬ bad (mk 27 (8 * s + i)) (mk 28 (8 * s + i))) ∧ (∀ o, o < 30 → d0 o = c0 o ∨ (d0 o = nn ∧ bad (c0 o) (c1 o))) := ⟨_, rfl⟩
  have hb : ∀ j mk, j < n → Q j mk → ∃ mk', Q (j + 1) mk' ∧ ∀ t rec, step t rec (mk, I (8 * s + (n - j)) + nn) = rec (mk', I (8 * s + (n - (j + 1))) + nn) := by
    intro j mk hj hQ
    rw [eQ] at hQ
    obtain ⟨n', P', d0, f1, f2, f3, f4, f5⟩ := hQ
    obtain ⟨i, ei⟩ : ∃ i, i = n - (j + 1) := ⟨_, rfl⟩
    have ec : 8 * s + (n - j) = 8 * s + i + 1 := by omega
    have ei2 : n - (j + 1) = i := ei.symm
    have ei3 : n - j = i + 1 := by omega
    rw [ec, dn_s, ei2]
    rw [ei3] at f3 f4
    by_cases hbd : bad (mk 27 (8 * s + i)) (mk 28 (8 * s + i))
    · obtain ⟨m', P2, g1, g2, g3, g4, g5⟩ := drop_ent hs f2 (i := i) (by omega)
      refine ⟨m', ?_, fun t rec => hbad t rec mk m' i (f1.1 0 (by omega)) (by omega) hbd g1⟩
      rw [eQ]
      refine ⟨n' - 1, P2, _, f1.trans g2, g3, by omega, fun a ha hb => ?_, fun o ho => ?_⟩
      · obtain ⟨e1, e2⟩ := g4 a hb (by omega)
        rw [e1, e2]
        exact f4 (a + 1) (by omega) (by omega)
      · by_cases d : o = P' i
        · right
          obtain ⟨a1, a2, a3, ⟨q, hq, a4⟩, a5, a6⟩ := f2.2.2.1 i (by omega)
          refine ⟨by rw [upd_at, if_pos d], ?_⟩
          rw [← a5, ← a6, ← d] at hbd
          rcases f5 o ho with e | ⟨e, e2⟩
          · rw [← e]; exact hbd
          · exact e2
        · rw [upd_at, if_neg d]
          exact f5 o ho
    · refine ⟨mk, ?_, fun t rec => hok t rec mk i (f1.1 0 (by omega)) (by omega) hbd⟩
      rw [eQ]
      refine ⟨n', P', d0, f1, f2, by omega, fun a ha hb => ?_, f5⟩
      by_cases d : a = i
      · subst d; exact hbd
      · exact f4 a (by omega) hb
  have he : ∀ mk, Q n mk → ∀ t rec, step t rec (mk, I (8 * s + (n - n)) + nn) = ex t mk := by
    intro mk _ t rec
    have e : 8 * s + (n - n) = 8 * s := by omega
    rw [e]
    exact hst t rec mk
  obtain ⟨m', hQ, hl⟩ := loop_upf (step := step) (fun j (mk : St) => (mk, I (8 * s + (n - j)) + nn)) n Q ex hb he n 0 m 1000 (by omega) (by omega) (by
    rw [eQ]
    exact ⟨n, P, c0, Fr.refl s m, h, by omega, fun i h1 h2 => by omega, fun o _ => Or.inl rfl⟩)
  rw [eQ] at hQ
  obtain ⟨n', P', d0, f1, f2, f3, f4, f5⟩ := hQ
  refine ⟨m', n', P', d0, hl, f1, f2, fun o ho => ⟨fun hh => ?_, fun hh => ?_⟩⟩
  · rcases f5 o ho with e | ⟨e, -⟩
    · exfalso
      obtain ⟨i, hi, e2⟩ := f2.2.2.2.2 o ho (by rw [e]; exact hh.1)
      obtain ⟨a1, a2, a3, a4, a5, a6⟩ := f2.2.2.1 i hi
      refine f4 i (by omega) hi ?_
      rw [← a5, ← a6, e2, e]
      exact hh.2
    · exact e
  · rcases f5 o ho with e | ⟨e, e2⟩
    · exact e
    · rw [e]
      apply Classical.byContradiction
      intro z
      exact hh ⟨fun w => z w.symm, e2⟩
theorem forgets_ent {m : St} {k n : Nat} {P : Nat → Nat} {c0 c1 : Nat → Int32} (hk : k < 30) (h : Ent (m 24) (m 25) (m 26) (m 27) (m 28) (k / 5) n P c0 c1) : ∃ m' n' P' d0, fX6_forgets m (I k) = some m' ∧ Fr (k / 5) m m' ∧ Ent (m' 24) (m' 25) (m' 26) (m' 27) (m' 28) (k / 5) n' P' d0 c1 ∧ ∀ o, o < 30 → (c0 o = I (k % 5) → d0 o = nn) ∧ (c0 o ≠ I (k % 5) → d0 o = c0 o) := by
  have ek : k - k / 5 * 5 = k % 5 := by omega
  obtain ⟨m', n', P', d0, g1, g2, g3, g4⟩ := down_ent (ι := Unit) (step := fun _ k' a => fX6_forgets_S18 k' (I k) (I (k / 5)) (a.1) (a.2)) (m := m) (by omega) h (fun _ mk => some mk) (fun x _ => x = I (k % 5))
    (fun _ rec mk => by
      have e : (I (8 * (k / 5)) + nn < I (8 * (k / 5))) = True := by rw [dn_lt (by omega) (by omega)]; exact eq_true (by omega)
      simp (disch := omega) only [fX6_forgets_S18, ck1, bd1, bx1, bx2, aS_at, iS_at, upd_at, ↓reduceIte, Nat.reduceEqDiff, Nat.reduceAdd, Nat.reduceMul, Nat.reduceSub, Nat.reduceDiv, Nat.reduceLT, Nat.reduceLeDiff, Nat.reduceBEq, ne_eq, not_true_eq_false, not_false_eq_true, reduceCtorEq, if_true, if_false, eq_self, Nat.add_zero, Nat.zero_add, lit, lit_nn, I_nat, I_add, I_mul, I_sub, I_div, inb_t, I_ne, I_nn, nn_I, nn_lt, nn_le, lt_nn, le_nn, I_t, I_f, I_lt_t, I_lt_f, isb_0, isb_1, vz_0, vz_1, nn_nat, e])
    (fun _ rec mk i _ hi hn => by
      simp (disch := omega) only [fX6_forgets_S18, ck1, bd1, bx1, bx2, aS_at, iS_at, upd_at, ↓reduceIte, Nat.reduceEqDiff, Nat.reduceAdd, Nat.reduceMul, Nat.reduceSub, Nat.reduceDiv, Nat.reduceLT, Nat.reduceLeDiff, Nat.reduceBEq, ne_eq, not_true_eq_false, not_false_eq_true, reduceCtorEq, if_true, if_false, eq_self, Nat.add_zero, Nat.zero_add, lit, lit_nn, I_nat, I_add, I_mul, I_sub, I_div, inb_t, I_ne, I_nn, nn_I, nn_lt, nn_le, lt_nn, le_nn, I_t, I_f, I_lt_t, I_lt_f, isb_0, isb_1, vz_0, vz_1, nn_nat, ek, hn])
    (fun _ rec mk mk' i _ hi hn hd => by
      simp (disch := omega) only [fX6_forgets_S18, ck1, bd1, bx1, bx2, aS_at, iS_at, upd_at, ↓reduceIte, Nat.reduceEqDiff, Nat.reduceAdd, Nat.reduceMul, Nat.reduceSub, Nat.reduceDiv, Nat.reduceLT, Nat.reduceLeDiff, Nat.reduceBEq, ne_eq, not_true_eq_false, not_false_eq_true, reduceCtorEq, if_true, if_false, eq_self, Nat.add_zero, Nat.zero_add, lit, lit_nn, I_nat, I_add, I_mul, I_sub, I_div, inb_t, I_ne, I_nn, nn_I, nn_lt, nn_le, lt_nn, le_nn, I_t, I_f, I_lt_t, I_lt_f, isb_0, isb_1, vz_0, vz_1, nn_nat, ek, hn, hd])
  refine ⟨m', n', P', d0, ?_, g2, g3, fun o ho => ⟨fun e => (g4 o ho).1 ⟨by rw [e, ne_eq, I_nn (by omega)]; exact fun h => h, e⟩, fun e => (g4 o ho).2 (fun w => e w.2)⟩⟩
  rw [← g1 ()]
  simp (disch := omega) only [fX6_forgets, fX6_forgets_L18, ck1, bd1, bx1, bx2, aS_at, iS_at, upd_at, ↓reduceIte, Nat.reduceEqDiff, Nat.reduceAdd, Nat.reduceMul, Nat.reduceSub, Nat.reduceDiv, Nat.reduceLT, Nat.reduceLeDiff, Nat.reduceBEq, ne_eq, not_true_eq_false, not_false_eq_true, reduceCtorEq, if_true, if_false, eq_self, Nat.add_zero, Nat.zero_add, lit, lit_nn, I_nat, I_add, I_mul, I_sub, I_div, inb_t, I_ne, I_nn, nn_I, nn_lt, nn_le, lt_nn, le_nn, I_t, I_f, I_lt_t, I_lt_f, isb_0, isb_1, vz_0, vz_1, nn_nat, h.2.1]
  simp only [I_add, lit, sub_dn]
/-! ===== the class's tables ===== -/
def CntOK (c : St) : Prop := ∀ s, s < 6 → c 2 s = I (cnt (fun o => c 0 (30 * s + o)) 30)
theorem ctab_cnt {c m : St} (h : CTab (c 0) (c 1) (c 2) (m 24) (m 25) (m 26) (m 27) (m 28)) : CntOK c := by
  intro s hs
  obtain ⟨n, P, h1, h2⟩ := h s hs
  rw [h1.cnt]; exact h2
theorem ctab_mk {c m : St} (h : CntOK c) (k : ∀ s, s < 6 → ∃ n P, Ent (m 24) (m 25) (m 26) (m 27) (m 28) s n P (fun o => c 0 (30 * s + o)) (fun o => c 1 (30 * s + o))) : CTab (c 0) (c 1) (c 2) (m 24) (m 25) (m 26) (m 27) (m 28) := by
  intro s hs
  obtain ⟨n, P, h1⟩ := k s hs
  exact ⟨n, P, h1, by rw [h s hs, h1.cnt]⟩
theorem cdrop {c : St} (h : CntOK c) {x : Nat} (hx : x < 180) (hl : c 0 x ≠ nn) : ∃ c', fX2_drop c (I x) = some c' ∧ CntOK c' ∧ c' 0 = upd (c 0) x nn ∧ c' 1 = c 1 := by
  obtain ⟨y, ey⟩ : ∃ y, y = cnt (fun o => c 0 (30 * (x / 30) + o)) 30 := ⟨_, rfl⟩
  have e2 : c 2 (x / 30) = I y := by rw [ey]; exact h (x / 30) (by omega)
  have q := cnt_upd (fun o => c 0 (30 * (x / 30) + o)) (x % 30) nn 30 (by omega)
  have ex : 30 * (x / 30) + x % 30 = x := by omega
  rw [ex, if_neg hl, if_pos rfl, ← ey] at q
  refine ⟨aS (aS c 0 (I x) nn) 2 (I (x / 30)) (I (y - 1)), ?_, fun s hs => ?_, ?_, ?_⟩
  · simp (disch := omega) only [fX2_drop, ck1, bd1, bx1, bx2, aS_at, iS_at, upd_at, ↓reduceIte, Nat.reduceEqDiff, Nat.reduceAdd, Nat.reduceMul, Nat.reduceSub, Nat.reduceDiv, Nat.reduceLT, Nat.reduceLeDiff, Nat.reduceBEq, ne_eq, not_true_eq_false, not_false_eq_true, reduceCtorEq, if_true, if_false, eq_self, Nat.add_zero, Nat.zero_add, lit, lit_nn, I_nat, I_add, I_mul, I_sub, I_div, inb_t, I_ne, I_nn, nn_I, nn_lt, nn_le, lt_nn, le_nn, I_t, I_f, I_lt_t, I_lt_f, isb_0, isb_1, vz_0, vz_1, nn_nat, e2]
  · by_cases d : s = x / 30
    · subst d
      have e3 : cnt (fun o => (aS (aS c 0 (I x) nn) 2 (I (x / 30)) (I (y - 1))) 0 (30 * (x / 30) + o)) 30 = cnt (upd (fun o => c 0 (30 * (x / 30) + o)) (x % 30) nn) 30 := by
        refine cnt_ext fun o ho => ?_
        simp (disch := omega) only [ck1, bd1, bx1, bx2, aS_at, iS_at, upd_at, ↓reduceIte, Nat.reduceEqDiff, Nat.reduceAdd, Nat.reduceMul, Nat.reduceSub, Nat.reduceDiv, Nat.reduceLT, Nat.reduceLeDiff, Nat.reduceBEq, ne_eq, not_true_eq_false, not_false_eq_true, reduceCtorEq, if_true, if_false, eq_self, Nat.add_zero, Nat.zero_add, lit, lit_nn, I_nat, I_add, I_mul, I_sub, I_div, inb_t, I_ne, I_nn, nn_I, nn_lt, nn_le, lt_nn, le_nn, I_t, I_f, I_lt_t, I_lt_f, isb_0, isb_1, vz_0, vz_1, nn_nat]
        by_cases z : o = x % 30
        · have z' : 30 * (x / 30) + o = x := by omega
          rw [if_pos z, if_pos z']
        · have z' : ¬ 30 * (x / 30) + o = x := by omega
          rw [if_neg z, if_neg z']
      rw [e3]
      simp (disch := omega) only [ck1, bd1, bx1, bx2, aS_at, iS_at, upd_at, ↓reduceIte, Nat.reduceEqDiff, Nat.reduceAdd, Nat.reduceMul, Nat.reduceSub, Nat.reduceDiv, Nat.reduceLT, Nat.reduceLeDiff, Nat.reduceBEq, ne_eq, not_true_eq_false, not_false_eq_true, reduceCtorEq, if_true, if_false, eq_self, Nat.add_zero, Nat.zero_add, lit, lit_nn, I_nat, I_add, I_mul, I_sub, I_div, inb_t, I_ne, I_nn, nn_I, nn_lt, nn_le, lt_nn, le_nn, I_t, I_f, I_lt_t, I_lt_f, isb_0, isb_1, vz_0, vz_1, nn_nat]
      congr 1
      omega
    · have e3 : cnt (fun o => (aS (aS c 0 (I x) nn) 2 (I (x / 30)) (I (y - 1))) 0 (30 * s + o)) 30 = cnt (fun o => c 0 (30 * s + o)) 30 := by
        refine cnt_ext fun o ho => ?_
        have z' : ¬ 30 * s + o = x := by omega
        simp (disch := omega) only [ck1, bd1, bx1, bx2, aS_at, iS_at, upd_at, ↓reduceIte, Nat.reduceEqDiff, Nat.reduceAdd, Nat.reduceMul, Nat.reduceSub, Nat.reduceDiv, Nat.reduceLT, Nat.reduceLeDiff, Nat.reduceBEq, ne_eq, not_true_eq_false, not_false_eq_true, reduceCtorEq, if_true, if_false, eq_self, Nat.add_zero, Nat.zero_add, lit, lit_nn, I_nat, I_add, I_mul, I_sub, I_div, inb_t, I_ne, I_nn, nn_I, nn_lt, nn_le, lt_nn, le_nn, I_t, I_f, I_lt_t, I_lt_f, isb_0, isb_1, vz_0, vz_1, nn_nat, z']
      rw [e3, ← h s hs]
      simp (disch := omega) only [ck1, bd1, bx1, bx2, aS_at, iS_at, upd_at, ↓reduceIte, Nat.reduceEqDiff, Nat.reduceAdd, Nat.reduceMul, Nat.reduceSub, Nat.reduceDiv, Nat.reduceLT, Nat.reduceLeDiff, Nat.reduceBEq, ne_eq, not_true_eq_false, not_false_eq_true, reduceCtorEq, if_true, if_false, eq_self, Nat.add_zero, Nat.zero_add, lit, lit_nn, I_nat, I_add, I_mul, I_sub, I_div, inb_t, I_ne, I_nn, nn_I, nn_lt, nn_le, lt_nn, le_nn, I_t, I_f, I_lt_t, I_lt_f, isb_0, isb_1, vz_0, vz_1, nn_nat, d]
  · simp (disch := omega) only [ck1, bd1, bx1, bx2, aS_at, iS_at, upd_at, ↓reduceIte, Nat.reduceEqDiff, Nat.reduceAdd, Nat.reduceMul, Nat.reduceSub, Nat.reduceDiv, Nat.reduceLT, Nat.reduceLeDiff, Nat.reduceBEq, ne_eq, not_true_eq_false, not_false_eq_true, reduceCtorEq, if_true, if_false, eq_self, Nat.add_zero, Nat.zero_add, lit, lit_nn, I_nat, I_add, I_mul, I_sub, I_div, inb_t, I_ne, I_nn, nn_I, nn_lt, nn_le, lt_nn, le_nn, I_t, I_f, I_lt_t, I_lt_f, isb_0, isb_1, vz_0, vz_1, nn_nat]
  · simp (disch := omega) only [ck1, bd1, bx1, bx2, aS_at, iS_at, upd_at, ↓reduceIte, Nat.reduceEqDiff, Nat.reduceAdd, Nat.reduceMul, Nat.reduceSub, Nat.reduceDiv, Nat.reduceLT, Nat.reduceLeDiff, Nat.reduceBEq, ne_eq, not_true_eq_false, not_false_eq_true, reduceCtorEq, if_true, if_false, eq_self, Nat.add_zero, Nat.zero_add, lit, lit_nn, I_nat, I_add, I_mul, I_sub, I_div, inb_t, I_ne, I_nn, nn_I, nn_lt, nn_le, lt_nn, le_nn, I_t, I_f, I_lt_t, I_lt_f, isb_0, isb_1, vz_0, vz_1, nn_nat]
theorem cforget {c : St} (h : CntOK c) {k : Nat} (hk : k < 30) : ∃ c', fX2_forgetPort c (I k) = some c' ∧ CntOK c' ∧ c' 1 = c 1 ∧ ∀ x, (30 * (k / 5) ≤ x → x < 30 * (k / 5) + 30 → c 0 x = I (k % 5) → c' 0 x = nn) ∧ (¬ (30 * (k / 5) ≤ x ∧ x < 30 * (k / 5) + 30 ∧ c 0 x = I (k % 5)) → c' 0 x = c 0 x) := by
  have ek : k - k / 5 * 5 = k % 5 := by omega
  obtain ⟨b, eb⟩ : ∃ b, b = k / 5 * 30 := ⟨_, rfl⟩
  have hb6 : b + 30 ≤ 180 := by omega
  obtain ⟨Q, eQ⟩ : ∃ Q : Nat → St → Prop, Q = fun j d => CntOK d ∧ d 1 = c 1 ∧ ∀ x, (b ≤ x ∧ x < b + j ∧ c 0 x = I (k % 5) → d 0 x = nn) ∧ (¬ (b ≤ x ∧ x < b + j ∧ c 0 x = I (k % 5)) → d 0 x = c 0 x) := ⟨_, rfl⟩
  have hb : ∀ j d, j < 30 → Q j d → ∃ d', Q (j + 1) d' ∧ ∀ rec, fX2_forgetPort_S9 rec (I k) (I b) d (I (b + j)) = rec (d', I (b + (j + 1))) := by
    intro j d hj hQ
    rw [eQ] at hQ
    obtain ⟨q1, q2, q3⟩ := hQ
    have e0 : d 0 (b + j) = c 0 (b + j) := (q3 (b + j)).2 (by omega)
    by_cases hc : c 0 (b + j) = I (k % 5)
    · obtain ⟨d', g1, g2, g3, g4⟩ := cdrop q1 (x := b + j) (by omega) (by rw [e0, hc, ne_eq, I_nn (by omega)]; exact fun h => h)
      refine ⟨d', ?_, fun rec => ?_⟩
      · rw [eQ]
        refine ⟨g2, g4.trans q2, fun x => ⟨fun hh => ?_, fun hh => ?_⟩⟩
        · rw [g3, upd_at]
          by_cases z : x = b + j
          · rw [if_pos z]
          · rw [if_neg z]
            exact (q3 x).1 ⟨hh.1, by omega, hh.2.2⟩
        · rw [g3, upd_at]
          have z : x ≠ b + j := fun z => hh ⟨by omega, by omega, by rw [z]; exact hc⟩
          rw [if_neg z]
          exact (q3 x).2 (fun w => hh ⟨w.1, by omega, w.2.2⟩)
      · simp (disch := omega) only [fX2_forgetPort_S9, ck1, bd1, bx1, bx2, aS_at, iS_at, upd_at, ↓reduceIte, Nat.reduceEqDiff, Nat.reduceAdd, Nat.reduceMul, Nat.reduceSub, Nat.reduceDiv, Nat.reduceLT, Nat.reduceLeDiff, Nat.reduceBEq, ne_eq, not_true_eq_false, not_false_eq_true, reduceCtorEq, if_true, if_false, eq_self, Nat.add_zero, Nat.zero_add, lit, lit_nn, I_nat, I_add, I_mul, I_sub, I_div, inb_t, I_ne, I_nn, nn_I, nn_lt, nn_le, lt_nn, le_nn, I_t, I_f, I_lt_t, I_lt_f, isb_0, isb_1, vz_0, vz_1, nn_nat, ek, e0, hc, g1]
        rfl
    · refine ⟨d, ?_, fun rec => ?_⟩
      · rw [eQ]
        refine ⟨q1, q2, fun x => ⟨fun hh => ?_, fun hh => ?_⟩⟩
        · have z : x ≠ b + j := fun z => hc (by rw [← z]; exact hh.2.2)
          exact (q3 x).1 ⟨hh.1, by omega, hh.2.2⟩
        · exact (q3 x).2 (fun w => hh ⟨w.1, by omega, w.2.2⟩)
      · simp (disch := omega) only [fX2_forgetPort_S9, ck1, bd1, bx1, bx2, aS_at, iS_at, upd_at, ↓reduceIte, Nat.reduceEqDiff, Nat.reduceAdd, Nat.reduceMul, Nat.reduceSub, Nat.reduceDiv, Nat.reduceLT, Nat.reduceLeDiff, Nat.reduceBEq, ne_eq, not_true_eq_false, not_false_eq_true, reduceCtorEq, if_true, if_false, eq_self, Nat.add_zero, Nat.zero_add, lit, lit_nn, I_nat, I_add, I_mul, I_sub, I_div, inb_t, I_ne, I_nn, nn_I, nn_lt, nn_le, lt_nn, le_nn, I_t, I_f, I_lt_t, I_lt_f, isb_0, isb_1, vz_0, vz_1, nn_nat, ek, e0, hc]
        rfl
  have he : ∀ d, Q 30 d → ∀ rec, fX2_forgetPort_S9 rec (I k) (I b) d (I (b + 30)) = some d := by
    intro d _ rec
    simp (disch := omega) only [fX2_forgetPort_S9, ck1, bd1, bx1, bx2, aS_at, iS_at, upd_at, ↓reduceIte, Nat.reduceEqDiff, Nat.reduceAdd, Nat.reduceMul, Nat.reduceSub, Nat.reduceDiv, Nat.reduceLT, Nat.reduceLeDiff, Nat.reduceBEq, ne_eq, not_true_eq_false, not_false_eq_true, reduceCtorEq, if_true, if_false, eq_self, Nat.add_zero, Nat.zero_add, lit, lit_nn, I_nat, I_add, I_mul, I_sub, I_div, inb_t, I_ne, I_nn, nn_I, nn_lt, nn_le, lt_nn, le_nn, I_t, I_f, I_lt_t, I_lt_f, isb_0, isb_1, vz_0, vz_1, nn_nat]
  obtain ⟨c', hQ, hl⟩ := loop_up (step := fun k' a => fX2_forgetPort_S9 k' (I k) (I b) (a.1) (a.2)) (fun j (d : St) => (d, I (b + j))) 30 Q (fun d => some d) hb he 30 0 c 1000 (by omega) (by omega) (by
    rw [eQ]
    exact ⟨h, rfl, fun x => ⟨fun hh => by omega, fun _ => rfl⟩⟩)
  rw [eQ] at hQ
  obtain ⟨q1, q2, q3⟩ := hQ
  refine ⟨c', ?_, q1, q2, fun x => ⟨fun a1 a2 a3 => (q3 x).1 ⟨by omega, by omega, a3⟩, fun hh => (q3 x).2 (fun w => hh ⟨by omega, by omega, w.2.2⟩)⟩⟩
  rw [← hl]
  simp (disch := omega) only [fX2_forgetPort, fX2_forgetPort_L9, ck1, bd1, bx1, bx2, aS_at, iS_at, upd_at, ↓reduceIte, Nat.reduceEqDiff, Nat.reduceAdd, Nat.reduceMul, Nat.reduceSub, Nat.reduceDiv, Nat.reduceLT, Nat.reduceLeDiff, Nat.reduceBEq, ne_eq, not_true_eq_false, not_false_eq_true, reduceCtorEq, if_true, if_false, eq_self, Nat.add_zero, Nat.zero_add, lit, lit_nn, I_nat, I_add, I_mul, I_sub, I_div, inb_t, I_ne, I_nn, nn_I, nn_lt, nn_le, lt_nn, le_nn, I_t, I_f, I_lt_t, I_lt_f, isb_0, isb_1, vz_0, vz_1, nn_nat, ← eb]
/-- class and reference forget a port -/
theorem forget_both {c m : St} (h : CTab (c 0) (c 1) (c 2) (m 24) (m 25) (m 26) (m 27) (m 28)) {k : Nat} (hk : k < 30) : ∃ c' m', fX2_forgetPort c (I k) = some c' ∧ fX6_forgets m (I k) = some m' ∧ (∀ q, q < 24 ∨ 28 < q → m' q = m q) ∧ CTab (c' 0) (c' 1) (c' 2) (m' 24) (m' 25) (m' 26) (m' 27) (m' 28) := by
  obtain ⟨c', g1, g2, g3, g4⟩ := cforget (ctab_cnt h) hk
  obtain ⟨n, P, e1, e2⟩ := h (k / 5) (by omega)
  obtain ⟨m', n', P', d0, f1, f2, f3, f4⟩ := forgets_ent hk e1
  refine ⟨c', m', g1, f1, f2.1, ctab_mk g2 fun s hs => ?_⟩
  by_cases d : s = k / 5
  · subst d
    refine ⟨n', P', f3.ext rfl (fun i hi => ⟨rfl, rfl, rfl, rfl⟩) (fun o ho => ⟨?_, fun _ => by rw [g3]⟩)⟩
    by_cases z : c 0 (30 * (k / 5) + o) = I (k % 5)
    · rw [(g4 _).1 (by omega) (by omega) z, (f4 o ho).1 z]
    · rw [(g4 _).2 (fun w => z w.2.2), (f4 o ho).2 z]
  · obtain ⟨n2, P2, a1, a2⟩ := h s hs
    refine ⟨n2, P2, a1.ext (f2.2.1 s d) (fun i hi => f2.2.2 _ (by omega)) (fun o ho => ⟨?_, fun _ => by rw [g3]⟩)⟩
    exact (g4 _).2 (by omega)

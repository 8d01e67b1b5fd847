theorem cnt_bij : ∀ (n : Nat) (g : Nat → Int32) (P : Nat → Nat), (∀ i, i < n → P i < 30 ∧ g (P i) ≠ nn) → (∀ i j, i < n → j < n → P i = P j → i = j) → (∀ o, o < 30 → g o ≠ nn → ∃ i, i < n ∧ P i = o) → cnt g 30 = n := by
  intro n
  induction n with
  | zero =>
    intro g P h1 h2 h3
    have h : ∀ k, k ≤ 30 → cnt g k = 0 := by
      intro k
      induction k with
      | zero => intro _; rfl
      | succ k ih =>
        intro hk
        show cnt g k + (if g k = nn then 0 else 1) = 0
        rw [ih (by omega), if_pos]
        apply Classical.byContradiction
        intro h
        obtain ⟨i, hi, _⟩ := h3 k (by omega) h
        omega
    exact h 30 (by omega)
  | succ n ih =>
    intro g P h1 h2 h3
    have q := cnt_upd g (P n) nn 30 (h1 n (by omega)).1
    rw [if_neg (h1 n (by omega)).2, if_pos rfl] at q
    have z := ih (upd g (P n) nn) P (fun i hi => ⟨(h1 i (by omega)).1, by
        rw [upd_at, if_neg (fun e => by have := h2 i n (by omega) (by omega) e; omega)]
        exact (h1 i (by omega)).2⟩) (fun i j hi hj => h2 i j (by omega) (by omega)) (fun o ho e => by
        by_cases d : o = P n
        · rw [upd_at, if_pos d] at e
          exact absurd rfl e
        · rw [upd_at, if_neg d] at e
          obtain ⟨i, hi, e2⟩ := h3 o ho e
          by_cases d2 : i = n
          · subst d2; exact absurd e2.symm d
          · exact ⟨i, by omega, e2⟩)
    omega
theorem cnt_ext {f g : Nat → Int32} (h : ∀ o, o < 30 → f o = g o) : cnt f 30 = cnt g 30 := by
  have q : ∀ k, k ≤ 30 → cnt f k = cnt g k := by
    intro k
    induction k with
    | zero => intro _; rfl
    | succ k ih =>
      intro hk
      show cnt f k + (if f k = nn then 0 else 1) = cnt g k + (if g k = nn then 0 else 1)
      rw [ih (by omega), h k (by omega)]
  exact q 30 (by omega)
theorem Ent.cnt {en el eh ep eb : Nat → Int32} {s n : Nat} {P : Nat → Nat} {c0 c1 : Nat → Int32} (h : Ent en el eh ep eb s n P c0 c1) : cnt c0 30 = n := by
  obtain ⟨h1, h2, h3, h4, h5⟩ := h
  refine cnt_bij n c0 P (fun i hi => ⟨(h3 i hi).1, ?_⟩) h4 h5
  obtain ⟨-, -, -, ⟨k, hk, e⟩, e2, -⟩ := h3 i hi
  rw [e2, e, ne_eq, I_nn (by omega)]
  exact fun h => h
/-- the reference's table of one switch changes, all else stands -/
def Fr (s : Nat) (m m' : St) : Prop := (∀ q, q < 24 ∨ 28 < q → m' q = m q) ∧ (∀ j, j ≠ s → m' 24 j = m 24 j) ∧ (∀ x, x < 8 * s ∨ 8 * s + 8 ≤ x → m' 25 x = m 25 x ∧ m' 26 x = m 26 x ∧ m' 27 x = m 27 x ∧ m' 28 x = m 28 x)
def FrC (s : Nat) (c c' : St) : Prop := (∀ x, x < 30 * s ∨ 30 * s + 30 ≤ x → c' 0 x = c 0 x ∧ c' 1 x = c 1 x) ∧ (∀ j, j ≠ s → c' 2 j = c 2 j)
theorem Fr.refl (s : Nat) (m : St) : Fr s m m := ⟨fun _ _ => rfl, fun _ _ => rfl, fun _ _ => ⟨rfl, rfl, rfl, rfl⟩⟩
theorem Fr.trans {s : Nat} {a b c : St} (h : Fr s a b) (k : Fr s b c) : Fr s a c :=
  ⟨fun q hq => (k.1 q hq).trans (h.1 q hq), fun j hj => (k.2.1 j hj).trans (h.2.1 j hj), fun x hx => ⟨(k.2.2 x hx).1.trans (h.2.2 x hx).1, (k.2.2 x hx).2.1.trans (h.2.2 x hx).2.1, (k.2.2 x hx).2.2.1.trans (h.2.2 x hx).2.2.1, (k.2.2 x hx).2.2.2.trans (h.2.2 x hx).2.2.2⟩⟩
theorem Ent.ext {m m' : St} {s n : Nat} {P : Nat → Nat} {c0 c1 d0 d1 : Nat → Int32} (h : Ent (m 24) (m 25) (m 26) (m 27) (m 28) s n P c0 c1) (e0 : m' 24 s = m 24 s) (e : ∀ i, i < 8 → m' 25 (8 * s + i) = m 25 (8 * s + i) ∧ m' 26 (8 * s + i) = m 26 (8 * s + i) ∧ m' 27 (8 * s + i) = m 27 (8 * s + i) ∧ m' 28 (8 * s + i) = m 28 (8 * s + i)) (e1 : ∀ o, o < 30 → d0 o = c0 o ∧ (c0 o ≠ nn → d1 o = c1 o)) : Ent (m' 24) (m' 25) (m' 26) (m' 27) (m' 28) s n P d0 d1 := by
  obtain ⟨h1, h2, h3, h4, h5⟩ := h
  refine ⟨h1, e0.trans h2, fun i hi => ?_, h4, fun o ho hh => h5 o ho (by rw [← (e1 o ho).1]; exact hh)⟩
  obtain ⟨a1, a2, a3, a4, a5, a6⟩ := h3 i hi
  obtain ⟨q1, q2, q3, q4⟩ := e i (by omega)
  rw [q1, q2, q3, q4, (e1 _ a1).1]
  refine ⟨a1, a2, a3, a4, a5, ((e1 _ a1).2 ?_).trans a6⟩
  obtain ⟨k, hk, e⟩ := a4
  rw [a5, e, ne_eq, I_nn (by omega)]
  exact fun h => h
theorem ctab_one {c c' m m' : St} {s : Nat} (h : CTab (c 0) (c 1) (c 2) (m 24) (m 25) (m 26) (m 27) (m 28)) (f : FrC s c c') (g : Fr s m m') (k : ∃ n P, Ent (m' 24) (m' 25) (m' 26) (m' 27) (m' 28) s n P (fun o => c' 0 (30 * s + o)) (fun o => c' 1 (30 * s + o)) ∧ c' 2 s = I n) : CTab (c' 0) (c' 1) (c' 2) (m' 24) (m' 25) (m' 26) (m' 27) (m' 28) := by
  intro s' hs'
  by_cases e : s' = s
  · subst e; exact k
  · obtain ⟨n, P, h1, h2⟩ := h s' hs'
    refine ⟨n, P, h1.ext (g.2.1 s' e) (fun i hi => g.2.2 _ (by omega)) (fun o ho => ⟨(f.1 _ (by omega)).1, fun _ => (f.1 _ (by omega)).2⟩), (f.2 s' e).trans h2⟩
/-- one row is taken out -/
theorem drop_ent {m : St} {s n i : Nat} {P : Nat → Nat} {c0 c1 : Nat → Int32} (hs : s < 6) (h : Ent (m 24) (m 25) (m 26) (m 27) (m 28) s n P c0 c1) (hi : i < n) : ∃ m' P', fX6_drops m (I s) (I (8 * s + i)) = some m' ∧ Fr s m m' ∧ Ent (m' 24) (m' 25) (m' 26) (m' 27) (m' 28) s (n - 1) P' (upd c0 (P i) nn) c1 ∧ (∀ j, j < n - 1 → i ≤ j → m' 27 (8 * s + j) = m 27 (8 * s + (j + 1)) ∧ m' 28 (8 * s + j) = m 28 (8 * s + (j + 1))) ∧ (∀ j, j < i → m' 27 (8 * s + j) = m 27 (8 * s + j) ∧ m' 28 (8 * s + j) = m 28 (8 * s + j)) := by
  obtain ⟨h1, h2, h3, h4, h5⟩ := h
  obtain ⟨m1, em1⟩ : ∃ m1, m1 = aS m 24 (I s) (I (n - 1)) := ⟨_, rfl⟩
  obtain ⟨Q, eQ⟩ : ∃ Q : Nat → St → Prop, Q = fun k mk => (∀ q, q < 25 ∨ 28 < q → mk q = m1 q) ∧ ∀ x, (mk 25 x = if 8 * s + i ≤ x ∧ x < 8 * s + k then m 25 (x + 1) else m 25 x) ∧ (mk 26 x = if 8 * s + i ≤ x ∧ x < 8 * s + k then m 26 (x + 1) else m 26 x) ∧ (mk 27 x = if 8 * s + i ≤ x ∧ x < 8 * s + k then m 27 (x + 1) else m 27 x) ∧ (mk 28 x = if 8 * s + i ≤ x ∧ x < 8 * s + k then m 28 (x + 1) else m 28 x) := ⟨_, rfl⟩
  have en1 : m1 24 s = I (n - 1) := by rw [em1]; simp (disch := omega) only [ck1, bd1, bx1, bx2, aS_at, iS_at, upd_at, ↓reduceIte, Nat.reduceEqDiff, Nat.reduceAdd, Nat.reduceMul, Nat.reduceSub, Nat.reduceDiv, Nat.reduceLT, Nat.reduceLeDiff, Nat.reduceBEq, ne_eq, not_true_eq_false, not_false_eq_true, reduceCtorEq, if_true, if_false, eq_self, Nat.add_zero, Nat.zero_add, lit, lit_nn, I_nat, I_add, I_mul, I_sub, I_div, inb_t, I_ne, I_nn, nn_I, nn_lt, nn_le, lt_nn, le_nn, I_t, I_f, I_lt_t, I_lt_f, isb_0, isb_1, vz_0, vz_1, nn_nat]
  have hb : ∀ k mk, k < n - 1 → i ≤ k ∧ Q k mk → ∃ mk', (i ≤ k + 1 ∧ Q (k + 1) mk') ∧ ∀ rec, fX6_drops_S12 rec (I s) mk (I (8 * s + k)) = rec (mk', I (8 * s + (k + 1))) := by
    intro k mk hk ⟨hik, hQ⟩
    rw [eQ] at hQ
    obtain ⟨q1, q2⟩ := hQ
    have e24 : mk 24 s = I (n - 1) := by rw [q1 24 (by omega)]; exact en1
    refine ⟨aS (aS (aS (aS mk 25 (I (8 * s + k)) (mk 25 (8 * s + k + 1))) 26 (I (8 * s + k)) (mk 26 (8 * s + k + 1))) 27 (I (8 * s + k)) (mk 27 (8 * s + k + 1))) 28 (I (8 * s + k)) (mk 28 (8 * s + k + 1)), ⟨by omega, ?_⟩, fun rec => ?_⟩
    · rw [eQ]
      refine ⟨fun q hq => ?_, fun x => ?_⟩
      · have z1 : q ≠ 25 := by omega
        have z2 : q ≠ 26 := by omega
        have z3 : q ≠ 27 := by omega
        have z4 : q ≠ 28 := by omega
        simp only [aS_at, z1, z2, z3, z4, ↓reduceIte]
        exact q1 q hq
      · simp (disch := omega) only [ck1, bd1, bx1, bx2, aS_at, iS_at, upd_at, ↓reduceIte, Nat.reduceEqDiff, Nat.reduceAdd, Nat.reduceMul, Nat.reduceSub, Nat.reduceDiv, Nat.reduceLT, Nat.reduceLeDiff, Nat.reduceBEq, ne_eq, not_true_eq_false, not_false_eq_true, reduceCtorEq, if_true, if_false, eq_self, Nat.add_zero, Nat.zero_add, lit, lit_nn, I_nat, I_add, I_mul, I_sub, I_div, inb_t, I_ne, I_nn, nn_I, nn_lt, nn_le, lt_nn, le_nn, I_t, I_f, I_lt_t, I_lt_f, isb_0, isb_1, vz_0, vz_1, nn_nat]
        obtain ⟨y1, y2, y3, y4⟩ := q2 x
        obtain ⟨w1, w2, w3, w4⟩ := q2 (8 * s + k + 1)
        rw [if_neg (by omega)] at w1 w2 w3 w4
        by_cases d : x = 8 * s + k
        · subst d
          rw [if_pos rfl, if_pos (by omega), if_pos rfl, if_pos (by omega), if_pos rfl, if_pos (by omega), if_pos rfl, if_pos (by omega)]
          exact ⟨w1, w2, w3, w4⟩
        · rw [if_neg d, if_neg d, if_neg d, if_neg d, y1, y2, y3, y4]
          by_cases e : 8 * s + i ≤ x ∧ x < 8 * s + k
          · have e' : 8 * s + i ≤ x ∧ x < 8 * s + (k + 1) := by omega
            simp only [if_pos e, if_pos e', and_self]
          · have e' : ¬ (8 * s + i ≤ x ∧ x < 8 * s + (k + 1)) := by omega
            simp only [if_neg e, if_neg e', and_self]
    · simp (disch := omega) only [fX6_drops_S12, ck1, bd1, bx1, bx2, aS_at, iS_at, upd_at, ↓reduceIte, Nat.reduceEqDiff, Nat.reduceAdd, Nat.reduceMul, Nat.reduceSub, Nat.reduceDiv, Nat.reduceLT, Nat.reduceLeDiff, Nat.reduceBEq, ne_eq, not_true_eq_false, not_false_eq_true, reduceCtorEq, if_true, if_false, eq_self, Nat.add_zero, Nat.zero_add, lit, lit_nn, I_nat, I_add, I_mul, I_sub, I_div, inb_t, I_ne, I_nn, nn_I, nn_lt, nn_le, lt_nn, le_nn, I_t, I_f, I_lt_t, I_lt_f, isb_0, isb_1, vz_0, vz_1, nn_nat, e24]
      rfl
  have he : ∀ mk, i ≤ n - 1 ∧ Q (n - 1) mk → ∀ rec, fX6_drops_S12 rec (I s) mk (I (8 * s + (n - 1))) = some mk := by
    intro mk ⟨_, hQ⟩ rec
    rw [eQ] at hQ
    have e24 : mk 24 s = I (n - 1) := by rw [hQ.1 24 (by omega)]; exact en1
    simp (disch := omega) only [fX6_drops_S12, ck1, bd1, bx1, bx2, aS_at, iS_at, upd_at, ↓reduceIte, Nat.reduceEqDiff, Nat.reduceAdd, Nat.reduceMul, Nat.reduceSub, Nat.reduceDiv, Nat.reduceLT, Nat.reduceLeDiff, Nat.reduceBEq, ne_eq, not_true_eq_false, not_false_eq_true, reduceCtorEq, if_true, if_false, eq_self, Nat.add_zero, Nat.zero_add, lit, lit_nn, I_nat, I_add, I_mul, I_sub, I_div, inb_t, I_ne, I_nn, nn_I, nn_lt, nn_le, lt_nn, le_nn, I_t, I_f, I_lt_t, I_lt_f, isb_0, isb_1, vz_0, vz_1, nn_nat, e24]
  obtain ⟨m', ⟨-, hQ⟩, hl⟩ := loop_up (step := fun k a => fX6_drops_S12 k (I s) (a.1) (a.2)) (fun k (mk : St) => (mk, I (8 * s + k))) (n - 1) (fun k mk => i ≤ k ∧ Q k mk) (fun mk => some mk) hb he (n - 1 - i) i m1 1000 (by omega) (by omega) ⟨by omega, by
    rw [eQ]
    refine ⟨fun _ _ => rfl, fun x => ?_⟩
    rw [if_neg (by omega), if_neg (by omega), if_neg (by omega), if_neg (by omega), em1]
    exact ⟨rfl, rfl, rfl, rfl⟩⟩
  rw [eQ] at hQ
  obtain ⟨q1, q2⟩ := hQ
  refine ⟨m', fun j => if i ≤ j then P (j + 1) else P j, ?_, ⟨fun q hq => ?_, fun j hj => ?_, fun x hx => ?_⟩, ⟨by omega, ?_, fun j hj => ?_, fun a b ha hb => ?_, fun o ho hh => ?_⟩, fun j hj hij => ?_, fun j hj => ?_⟩
  · have e1 : m 24 s = I n := h2
    simp (disch := omega) only [fX6_drops, ck1, bd1, bx1, bx2, aS_at, iS_at, upd_at, ↓reduceIte, Nat.reduceEqDiff, Nat.reduceAdd, Nat.reduceMul, Nat.reduceSub, Nat.reduceDiv, Nat.reduceLT, Nat.reduceLeDiff, Nat.reduceBEq, ne_eq, not_true_eq_false, not_false_eq_true, reduceCtorEq, if_true, if_false, eq_self, Nat.add_zero, Nat.zero_add, lit, lit_nn, I_nat, I_add, I_mul, I_sub, I_div, inb_t, I_ne, I_nn, nn_I, nn_lt, nn_le, lt_nn, le_nn, I_t, I_f, I_lt_t, I_lt_f, isb_0, isb_1, vz_0, vz_1, nn_nat, e1]
    rw [← em1]
    exact hl
  · rw [q1 q (by omega), em1]
    have z : q ≠ 24 := by omega
    simp only [aS_at, z, ↓reduceIte]
  · rw [q1 24 (by omega), em1]
    simp (disch := omega) only [ck1, bd1, bx1, bx2, aS_at, iS_at, upd_at, ↓reduceIte, Nat.reduceEqDiff, Nat.reduceAdd, Nat.reduceMul, Nat.reduceSub, Nat.reduceDiv, Nat.reduceLT, Nat.reduceLeDiff, Nat.reduceBEq, ne_eq, not_true_eq_false, not_false_eq_true, reduceCtorEq, if_true, if_false, eq_self, Nat.add_zero, Nat.zero_add, lit, lit_nn, I_nat, I_add, I_mul, I_sub, I_div, inb_t, I_ne, I_nn, nn_I, nn_lt, nn_le, lt_nn, le_nn, I_t, I_f, I_lt_t, I_lt_f, isb_0, isb_1, vz_0, vz_1, nn_nat, hj]
  · obtain ⟨y1, y2, y3, y4⟩ := q2 x
    rw [if_neg (by omega)] at y1 y2 y3 y4
    exact ⟨y1, y2, y3, y4⟩
  · rw [q1 24 (by omega)]; exact en1
  · obtain ⟨y1, y2, y3, y4⟩ := q2 (8 * s + j)
    by_cases d : i ≤ j
    · rw [if_pos (by omega)] at y1 y2 y3 y4
      obtain ⟨a1, a2, a3, a4, a5, a6⟩ := h3 (j + 1) (by omega)
      simp only [d, ↓reduceIte]
      rw [y1, y2, y3, y4, upd_at, if_neg (fun e => by have := h4 _ _ (by omega) hi e; omega)]
      exact ⟨a1, a2, a3, a4, a5, a6⟩
    · rw [if_neg (by omega)] at y1 y2 y3 y4
      obtain ⟨a1, a2, a3, a4, a5, a6⟩ := h3 j (by omega)
      simp only [d, ↓reduceIte]
      rw [y1, y2, y3, y4, upd_at, if_neg (fun e => by have := h4 _ _ (by omega) hi e; omega)]
      exact ⟨a1, a2, a3, a4, a5, a6⟩
  · by_cases d1 : i ≤ a
    · by_cases d2 : i ≤ b
      · simp only [d1, d2, ↓reduceIte]
        intro e; have := h4 _ _ (by omega) (by omega) e; omega
      · simp only [d1, d2, ↓reduceIte]
        intro e; have := h4 _ _ (by omega) (by omega) e; omega
    · by_cases d2 : i ≤ b
      · simp only [d1, d2, ↓reduceIte]
        intro e; have := h4 _ _ (by omega) (by omega) e; omega
      · simp only [d1, d2, ↓reduceIte]
        intro e; exact h4 _ _ (by omega) (by omega) e
  · by_cases d : o = P i
    · rw [upd_at, if_pos d] at hh
      exact absurd rfl hh
    · rw [upd_at, if_neg d] at hh
      obtain ⟨j, hj, e⟩ := h5 o ho hh
      have dj : j ≠ i := fun z => d (by rw [← e, z])
      by_cases d2 : j < i
      · have z : ¬ i ≤ j := by omega
        refine ⟨j, by omega, ?_⟩
        simp only [if_neg z]; exact e
      · refine ⟨j - 1, by omega, ?_⟩
        have e3 : j - 1 + 1 = j := by omega
        have z : i ≤ j - 1 := by omega
        simp only [if_pos z, e3]; exact e
  · obtain ⟨y1, y2, y3, y4⟩ := q2 (8 * s + j)
    rw [if_pos (by omega)] at y3 y4
    exact ⟨y3, y4⟩
  · obtain ⟨y1, y2, y3, y4⟩ := q2 (8 * s + j)
    rw [if_neg (by omega)] at y3 y4
    exact ⟨y3, y4⟩
/-- where a row stands -/
theorem find_ent {m : St} {s n : Nat} {P : Nat → Nat} {c0 c1 : Nat → Int32} (hs : s < 6) (h : Ent (m 24) (m 25) (m 26) (m 27) (m 28) s n P c0 c1) {o : Nat} (ho : o < 30) : (c0 o = nn ∧ fX6_find m (I s) (I (o / 10 + 1)) (I (o % 10)) = some nn) ∨ (∃ i, i < n ∧ P i = o ∧ fX6_find m (I s) (I (o / 10 + 1)) (I (o % 10)) = some (I (8 * s + i))) := by
  have hc := h
  obtain ⟨h1, h2, h3, h4, h5⟩ := h
  obtain ⟨Q, eQ⟩ : ∃ Q : Nat → Int32 → Prop, Q = fun k r => (r = nn ∧ ∀ j, j < k → P j ≠ o) ∨ (∃ j, j < k ∧ P j = o ∧ r = I (8 * s + j)) := ⟨_, rfl⟩
  have hb : ∀ k r, k < n → Q k r → ∃ r', Q (k + 1) r' ∧ ∀ rec, fX6_find_S9 rec m (I s) (I (o / 10 + 1)) (I (o % 10)) r (I (8 * s + k)) = rec (r', I (8 * s + (k + 1))) := by
    intro k r hk hQ
    obtain ⟨a1, a2, a3, a4, a5, a6⟩ := h3 k hk
    subst eQ
    by_cases d : P k = o
    · rw [d] at a2 a3
      refine ⟨I (8 * s + k), Or.inr ⟨k, by omega, d, rfl⟩, fun rec => ?_⟩
      simp (disch := omega) only [fX6_find_S9, ck1, bd1, bx1, bx2, aS_at, iS_at, upd_at, ↓reduceIte, Nat.reduceEqDiff, Nat.reduceAdd, Nat.reduceMul, Nat.reduceSub, Nat.reduceDiv, Nat.reduceLT, Nat.reduceLeDiff, Nat.reduceBEq, ne_eq, not_true_eq_false, not_false_eq_true, reduceCtorEq, if_true, if_false, eq_self, Nat.add_zero, Nat.zero_add, lit, lit_nn, I_nat, I_add, I_mul, I_sub, I_div, inb_t, I_ne, I_nn, nn_I, nn_lt, nn_le, lt_nn, le_nn, I_t, I_f, I_lt_t, I_lt_f, isb_0, isb_1, vz_0, vz_1, nn_nat, h2, a2, a3]
      rfl
    · refine ⟨r, ?_, fun rec => ?_⟩
      · rcases hQ with ⟨e, f⟩ | ⟨j, hj, e, f⟩
        · refine Or.inl ⟨e, fun j hj => ?_⟩
          by_cases z : j = k
          · subst z; exact d
          · exact f j (by omega)
        · exact Or.inr ⟨j, by omega, e, f⟩
      · by_cases z : P k / 10 = o / 10
        · have z2 : P k % 10 ≠ o % 10 := by omega
          simp (disch := omega) only [fX6_find_S9, ck1, bd1, bx1, bx2, aS_at, iS_at, upd_at, ↓reduceIte, Nat.reduceEqDiff, Nat.reduceAdd, Nat.reduceMul, Nat.reduceSub, Nat.reduceDiv, Nat.reduceLT, Nat.reduceLeDiff, Nat.reduceBEq, ne_eq, not_true_eq_false, not_false_eq_true, reduceCtorEq, if_true, if_false, eq_self, Nat.add_zero, Nat.zero_add, lit, lit_nn, I_nat, I_add, I_mul, I_sub, I_div, inb_t, I_ne, I_nn, nn_I, nn_lt, nn_le, lt_nn, le_nn, I_t, I_f, I_lt_t, I_lt_f, isb_0, isb_1, vz_0, vz_1, nn_nat, h2, a2, a3, z, I_inj, z2]
          rfl
        · simp (disch := omega) only [fX6_find_S9, ck1, bd1, bx1, bx2, aS_at, iS_at, upd_at, ↓reduceIte, Nat.reduceEqDiff, Nat.reduceAdd, Nat.reduceMul, Nat.reduceSub, Nat.reduceDiv, Nat.reduceLT, Nat.reduceLeDiff, Nat.reduceBEq, ne_eq, not_true_eq_false, not_false_eq_true, reduceCtorEq, if_true, if_false, eq_self, Nat.add_zero, Nat.zero_add, lit, lit_nn, I_nat, I_add, I_mul, I_sub, I_div, inb_t, I_ne, I_nn, nn_I, nn_lt, nn_le, lt_nn, le_nn, I_t, I_f, I_lt_t, I_lt_f, isb_0, isb_1, vz_0, vz_1, nn_nat, h2, a2, a3, I_inj]
          rfl
  have he : ∀ r, Q n r → ∀ rec, fX6_find_S9 rec m (I s) (I (o / 10 + 1)) (I (o % 10)) r (I (8 * s + n)) = some r := by
    intro r _ rec
    simp (disch := omega) only [fX6_find_S9, ck1, bd1, bx1, bx2, aS_at, iS_at, upd_at, ↓reduceIte, Nat.reduceEqDiff, Nat.reduceAdd, Nat.reduceMul, Nat.reduceSub, Nat.reduceDiv, Nat.reduceLT, Nat.reduceLeDiff, Nat.reduceBEq, ne_eq, not_true_eq_false, not_false_eq_true, reduceCtorEq, if_true, if_false, eq_self, Nat.add_zero, Nat.zero_add, lit, lit_nn, I_nat, I_add, I_mul, I_sub, I_div, inb_t, I_ne, I_nn, nn_I, nn_lt, nn_le, lt_nn, le_nn, I_t, I_f, I_lt_t, I_lt_f, isb_0, isb_1, vz_0, vz_1, nn_nat, h2]
  obtain ⟨r, hQ, hl⟩ := loop_up (step := fun k a => fX6_find_S9 k m (I s) (I (o / 10 + 1)) (I (o % 10)) (a.1) (a.2)) (fun k (r : Int32) => (r, I (8 * s + k))) n Q (fun r => some r) hb he n 0 nn 1000 (by omega) (by omega) (by rw [eQ]; exact Or.inl ⟨rfl, fun j hj => by omega⟩)
  have e0 : fX6_find m (I s) (I (o / 10 + 1)) (I (o % 10)) = some r := by
    rw [← hl]
    simp (disch := omega) only [fX6_find, fX6_find_L9, ck1, bd1, bx1, bx2, aS_at, iS_at, upd_at, ↓reduceIte, Nat.reduceEqDiff, Nat.reduceAdd, Nat.reduceMul, Nat.reduceSub, Nat.reduceDiv, Nat.reduceLT, Nat.reduceLeDiff, Nat.reduceBEq, ne_eq, not_true_eq_false, not_false_eq_true, reduceCtorEq, if_true, if_false, eq_self, Nat.add_zero, Nat.zero_add, lit, lit_nn, I_nat, I_add, I_mul, I_sub, I_div, inb_t, I_ne, I_nn, nn_I, nn_lt, nn_le, lt_nn, le_nn, I_t, I_f, I_lt_t, I_lt_f, isb_0, isb_1, vz_0, vz_1, nn_nat]
  rw [e0]
  subst eQ
  rcases hQ with ⟨rfl, f⟩ | ⟨j, hj, e, rfl⟩
  · left
    refine ⟨?_, rfl⟩
    apply Classical.byContradiction
    intro z
    obtain ⟨i, hi, e⟩ := h5 o ho z
    exact f i hi e
  · exact Or.inr ⟨j, hj, e, rfl⟩

/-! ===== ranges of arguments ===== -/
theorem needSwitch_t {a : Nat} (h : a < 6) : fX5_needSwitch (I a) = some (.inl ()) := by
  simp (disch := omega) only [fX5_needSwitch, ck1, bd1, bx1, bx2, aS_at, iS_at, upd_at, ↓reduceIte, Nat.reduceEqDiff, Nat.reduceAdd, Nat.reduceMul, Nat.reduceSub, Nat.reduceDiv, Nat.reduceLT, Nat.reduceLeDiff, Nat.reduceBEq, ne_eq, not_true_eq_false, not_false_eq_true, reduceCtorEq, if_true, if_false, eq_self, Nat.add_zero, Nat.zero_add, lit, lit_nn, I_nat, I_add, I_mul, I_sub, I_div, inb_t, I_ne, I_nn, nn_I, nn_lt, nn_le, lt_nn, le_nn, I_t, I_f, I_lt_t, I_lt_f, isb_0, isb_1, vz_0, vz_1, nn_nat]
theorem not_inD {x : Int32} {n : Nat} (hn : 0 < n) (hn2 : n < 2147483648) (h : ¬ inD x 0 n) : x < I 0 ∨ (¬ x < I 0 ∧ ¬ x < I n ∧ I (n - 1) < x) := by
  by_cases h1 : x < I 0
  · exact Or.inl h1
  · have h2 : I (n - 1) < x := by
      apply Classical.byContradiction
      intro h2
      have := inD_of (by omega) (by omega) h1 h2
      rw [show n - 1 + 1 = n by omega] at this
      exact h this
    refine Or.inr ⟨h1, ?_, h2⟩
    intro h3
    rw [Int32.lt_iff_toInt_lt, I_int (by omega)] at h2 h3
    omega
theorem needSwitch_f {x : Int32} (h : ¬ inD x 0 6) : fX5_needSwitch x = some (.inr 1) := by
  rcases not_inD (by omega) (by omega) h with h | ⟨h1, h2, h3⟩
  · unfold fX5_needSwitch; rw [lit, if_pos h]
  · unfold fX5_needSwitch; rw [lit, lit, if_neg h1, if_neg h2]
theorem needHouse_t {a : Nat} (h : a < 10) : fX5_needHouse (I a) = some (.inl ()) := by
  simp (disch := omega) only [fX5_needHouse, ck1, bd1, bx1, bx2, aS_at, iS_at, upd_at, ↓reduceIte, Nat.reduceEqDiff, Nat.reduceAdd, Nat.reduceMul, Nat.reduceSub, Nat.reduceDiv, Nat.reduceLT, Nat.reduceLeDiff, Nat.reduceBEq, ne_eq, not_true_eq_false, not_false_eq_true, reduceCtorEq, if_true, if_false, eq_self, Nat.add_zero, Nat.zero_add, lit, lit_nn, I_nat, I_add, I_mul, I_sub, I_div, inb_t, I_ne, I_nn, nn_I, nn_lt, nn_le, lt_nn, le_nn, I_t, I_f, I_lt_t, I_lt_f, isb_0, isb_1, vz_0, vz_1, nn_nat]
theorem needHouse_f {x : Int32} (h : ¬ inD x 0 10) : fX5_needHouse x = some (.inr 1) := by
  rcases not_inD (by omega) (by omega) h with h | ⟨h1, h2, h3⟩
  · unfold fX5_needHouse; rw [lit, if_pos h]
  · unfold fX5_needHouse; rw [lit, lit, if_neg h1, if_neg h2]
theorem needPort_t {a b : Nat} (h : a < 6) (hb : b < 5) : fX5_needPort (I a) (I b) = some (.inl ()) := by
  simp (disch := omega) only [fX5_needPort, needSwitch_t h, ck1, bd1, bx1, bx2, aS_at, iS_at, upd_at, ↓reduceIte, Nat.reduceEqDiff, Nat.reduceAdd, Nat.reduceMul, Nat.reduceSub, Nat.reduceDiv, Nat.reduceLT, Nat.reduceLeDiff, Nat.reduceBEq, ne_eq, not_true_eq_false, not_false_eq_true, reduceCtorEq, if_true, if_false, eq_self, Nat.add_zero, Nat.zero_add, lit, lit_nn, I_nat, I_add, I_mul, I_sub, I_div, inb_t, I_ne, I_nn, nn_I, nn_lt, nn_le, lt_nn, le_nn, I_t, I_f, I_lt_t, I_lt_f, isb_0, isb_1, vz_0, vz_1, nn_nat]
theorem needPort_f1 {x y : Int32} (h : ¬ inD x 0 6) : fX5_needPort x y = some (.inr 1) := by
  unfold fX5_needPort; rw [needSwitch_f h]; rfl
theorem needPort_f2 {a : Nat} {y : Int32} (ha : a < 6) (h : ¬ inD y 0 5) : fX5_needPort (I a) y = some (.inr 1) := by
  unfold fX5_needPort; rw [needSwitch_t ha, bx1]
  rcases not_inD (by omega) (by omega) h with h | ⟨h1, h2, h3⟩
  · rw [lit, if_pos h]
  · rw [lit, lit, if_neg h1, if_neg h2]
theorem needWithin_t {x : Int32} {a b : Nat} (hb : b < 2147483647) (h : inD x a (b + 1)) : fX5_needWithin x (I a) (I b) = some (.inl ()) := by
  obtain ⟨h1, h2⟩ := inD_to hb h
  unfold fX5_needWithin
  rw [if_neg h1, if_pos]
  rw [Int32.lt_iff_toInt_lt] at h2
  rw [Int32.le_iff_toInt_le]
  omega
theorem needWithin_f {x : Int32} {a b : Nat} (ha : a < 2147483647) (hb : b < 2147483647) (h : ¬ inD x a (b + 1)) : fX5_needWithin x (I a) (I b) = some (.inr 2) := by
  unfold fX5_needWithin
  by_cases h1 : x < I a
  · rw [if_pos h1]
  · rw [if_neg h1, if_neg]
    intro h2
    refine h (inD_of ha hb h1 ?_)
    rw [Int32.le_iff_toInt_le] at h2
    rw [Int32.lt_iff_toInt_lt]
    omega
theorem needLane_t {a : Nat} (h1 : 1 ≤ a) (h2 : a ≤ 3) : fX5_needLane (I a) = some (.inl ()) := by
  simp (disch := omega) only [fX5_needLane, ck1, bd1, bx1, bx2, aS_at, iS_at, upd_at, ↓reduceIte, Nat.reduceEqDiff, Nat.reduceAdd, Nat.reduceMul, Nat.reduceSub, Nat.reduceDiv, Nat.reduceLT, Nat.reduceLeDiff, Nat.reduceBEq, ne_eq, not_true_eq_false, not_false_eq_true, reduceCtorEq, if_true, if_false, eq_self, Nat.add_zero, Nat.zero_add, lit, lit_nn, I_nat, I_add, I_mul, I_sub, I_div, inb_t, I_ne, I_nn, nn_I, nn_lt, nn_le, lt_nn, le_nn, I_t, I_f, I_lt_t, I_lt_f, isb_0, isb_1, vz_0, vz_1, nn_nat]
theorem needLane_f {x : Int32} (h : ¬ inD x 1 4) : fX5_needLane x = some (.inr 1) := by
  unfold fX5_needLane
  by_cases h1 : x < I 1
  · rw [lit, if_pos h1]
  · rw [lit, lit, if_neg h1, if_neg]
    intro h2
    refine h (inD_of (b := 3) (by omega) (by omega) h1 ?_)
    rw [Int32.le_iff_toInt_le] at h2
    rw [Int32.lt_iff_toInt_lt]
    omega
theorem isIn_t {x : Int32} {a b : Nat} (hb : b < 2147483647) (h : inD x a (b + 1)) : fX6_isIn x (I a) (I b) = some (I 1) := by
  obtain ⟨h1, h2⟩ := inD_to hb h
  unfold fX6_isIn
  rw [if_neg h1, if_neg h2]; rfl
theorem isIn_f {x : Int32} {a b : Nat} (ha : a < 2147483647) (hb : b < 2147483647) (h : ¬ inD x a (b + 1)) : fX6_isIn x (I a) (I b) = some (I 0) := by
  unfold fX6_isIn
  by_cases h1 : x < I a
  · rw [if_pos h1]; rfl
  · rw [if_neg h1, if_pos]
    · rfl
    · apply Classical.byContradiction
      intro h2
      exact h (inD_of ha hb h1 h2)
theorem inD_I {k a n : Nat} (h1 : a ≤ k) (h2 : k < n) : inD (I k) a n := ⟨k, h1, h2, rfl⟩
theorem isSwitch_t {a : Nat} (h : a < 6) : fX6_isSwitch (I a) = some (I 1) := by
  unfold fX6_isSwitch
  rw [lit, lit, isIn_t (a := 0) (b := 5) (by omega) (inD_I (by omega) h)]; rfl
theorem isSwitch_f {x : Int32} (h : ¬ inD x 0 6) : fX6_isSwitch x = some (I 0) := by
  unfold fX6_isSwitch
  rw [lit, lit, isIn_f (a := 0) (b := 5) (by omega) (by omega) h]; rfl
theorem isHouse_t {a : Nat} (h : a < 10) : fX6_isHouse (I a) = some (I 1) := by
  unfold fX6_isHouse
  rw [lit, lit, isIn_t (a := 0) (b := 9) (by omega) (inD_I (by omega) h)]; rfl
theorem isHouse_f {x : Int32} (h : ¬ inD x 0 10) : fX6_isHouse x = some (I 0) := by
  unfold fX6_isHouse
  rw [lit, lit, isIn_f (a := 0) (b := 9) (by omega) (by omega) h]; rfl
theorem isLane_t {a : Nat} (h1 : 1 ≤ a) (h : a ≤ 3) : fX6_isLane (I a) = some (I 1) := by
  unfold fX6_isLane
  rw [lit, lit, isIn_t (a := 1) (b := 3) (by omega) (inD_I h1 (by omega))]; rfl
theorem isLane_f {x : Int32} (h : ¬ inD x 1 4) : fX6_isLane x = some (I 0) := by
  unfold fX6_isLane
  rw [lit, lit, isIn_f (a := 1) (b := 3) (by omega) (by omega) h]; rfl
theorem isPort_t {a b : Nat} (h : a < 6) (hb : b < 5) : fX6_isPort (I a) (I b) = some (I 1) := by
  unfold fX6_isPort
  rw [isSwitch_t h, lit, lit, lit, isIn_t (a := 0) (b := 4) (by omega) (inD_I (by omega) hb)]; rfl
theorem isPort_f1 {x y : Int32} (h : ¬ inD x 0 6) : fX6_isPort x y = some (I 0) := by
  unfold fX6_isPort; rw [isSwitch_f h]; rfl
theorem isPort_f2 {a : Nat} {y : Int32} (ha : a < 6) (h : ¬ inD y 0 5) : fX6_isPort (I a) y = some (I 0) := by
  unfold fX6_isPort; rw [isSwitch_t ha, lit, lit, lit, isIn_f (a := 0) (b := 4) (by omega) (by omega) h]; rfl
/-- a port's number, or none -/
theorem port_cases (x y : Int32) : (∃ a b, a < 6 ∧ b < 5 ∧ x = I a ∧ y = I b) ∨ (fX5_needPort x y = some (.inr 1) ∧ fX6_isPort x y = some (I 0)) := by
  by_cases h1 : inD x 0 6
  · obtain ⟨a, -, ha, rfl⟩ := h1
    by_cases h2 : inD y 0 5
    · obtain ⟨b, -, hb, rfl⟩ := h2
      exact Or.inl ⟨a, b, ha, hb, rfl, rfl⟩
    · exact Or.inr ⟨needPort_f2 ha h2, isPort_f2 ha h2⟩
  · exact Or.inr ⟨needPort_f1 h1, isPort_f1 h1⟩
theorem fails_0 (mm : St) : fX6_fails mm (I 0) = some (I 0, iS mm 40 (I 0)) := by
  simp (disch := omega) only [fX6_fails, ck1, bd1, bx1, bx2, aS_at, iS_at, upd_at, ↓reduceIte, Nat.reduceEqDiff, Nat.reduceAdd, Nat.reduceMul, Nat.reduceSub, Nat.reduceDiv, Nat.reduceLT, Nat.reduceLeDiff, Nat.reduceBEq, ne_eq, not_true_eq_false, not_false_eq_true, reduceCtorEq, if_true, if_false, eq_self, Nat.add_zero, Nat.zero_add, lit, lit_nn, I_nat, I_add, I_mul, I_sub, I_div, inb_t, I_ne, I_nn, nn_I, nn_lt, nn_le, lt_nn, le_nn, I_t, I_f, I_lt_t, I_lt_f, isb_0, isb_1, vz_0, vz_1, nn_nat]
theorem fails_k (mm : St) {k : Nat} (h1 : 1 ≤ k) (h : k ≤ 3) : fX6_fails mm (I k) = some (I 1, iS mm 40 (I k)) := by
  simp (disch := omega) only [fX6_fails, ck1, bd1, bx1, bx2, aS_at, iS_at, upd_at, ↓reduceIte, Nat.reduceEqDiff, Nat.reduceAdd, Nat.reduceMul, Nat.reduceSub, Nat.reduceDiv, Nat.reduceLT, Nat.reduceLeDiff, Nat.reduceBEq, ne_eq, not_true_eq_false, not_false_eq_true, reduceCtorEq, if_true, if_false, eq_self, Nat.add_zero, Nat.zero_add, lit, lit_nn, I_nat, I_add, I_mul, I_sub, I_div, inb_t, I_ne, I_nn, nn_I, nn_lt, nn_le, lt_nn, le_nn, I_t, I_f, I_lt_t, I_lt_f, isb_0, isb_1, vz_0, vz_1, nn_nat]
/-! ===== the relation of the two states ===== -/
def isI (n : Nat) (x : Int32) : Prop := ∃ k, k < n ∧ x = I k
def PRank (rk : Nat → Int32) : Prop := ∀ j, j < 6 → isI 16 (rk j)
def PWire (wi co : Nat → Int32) : Prop := ∀ k, k < 30 → wi k = nn ∨ ∃ j c, j < 30 ∧ wi k = I j ∧ wi j = I k ∧ j / 5 ≠ k / 5 ∧ 1 ≤ c ∧ c ≤ 100 ∧ co k = I c ∧ co j = I c
def PHouse (wi ho : Nat → Int32) : Prop := (∀ k, k < 30 → ho k = nn ∨ (wi k = nn ∧ isI 10 (ho k))) ∧ (∀ j k, j < 30 → k < 30 → ho j = ho k → ho j ≠ nn → j = k)
def PGuard (gu : Nat → Int32) : Prop := ∀ k, k < 30 → isI 3 (gu k)
def PLane (tr la ln : Nat → Int32) : Prop := ∀ k, k < 30 → isI 2 (tr k) ∧ (∃ a, 1 ≤ a ∧ a ≤ 7 ∧ la k = I a) ∧ (∃ a, 1 ≤ a ∧ a ≤ 3 ∧ ln k = I a)
def PNow (N : Nat) (no li : Nat → Int32) : Prop := N ≤ 100000 ∧ (∃ n, n ≤ N ∧ no 0 = I n) ∧ (∃ q, 1 ≤ q ∧ q ≤ 100 ∧ li 0 = I q)
def PTree (ro fa hp rp : Nat → Int32) : Prop := ∀ j, j < 6 → isI 6 (ro j) ∧ (∃ h c, h ≤ 7 ∧ c ≤ 100 * h ∧ hp j = I h ∧ fa j = I c) ∧ (rp j = nn ∨ ∃ p, p < 5 ∧ rp j = I (5 * j + p) ∧ ro j ≠ I j)
def PPort (N : Nat) (wi ho sh se op role st rp : Nat → Int32) : Prop := ∀ k, k < 30 → isI 2 (sh k) ∧ isI 2 (op k) ∧ isI 4 (role k) ∧ (∃ e, e ≤ N + 5 ∧ se k = I e) ∧ (sh k = I 0 → se k = I 0) ∧ (op k = I 1 → sh k = I 0 ∧ (wi k ≠ nn ∨ ho k ≠ nn)) ∧ (wi k = nn → role k = I 0) ∧ (role k = I 1 → rp (k / 5) = I k) ∧ (∃ q, q ≤ N ∧ st k = I q ∧ (wi k ≠ nn → op k = I 0 → q ≤ 2))
def PTab (sh st : Nat → Int32) : Prop := ∀ k, k < 30 → sh k = I 1 → st k = I 0
def CRank (cr rk : Nat → Int32) : Prop := ∀ j, j < 6 → cr j = rk j
def CWire (w0 w1 w2 w3 wi co ho gu : Nat → Int32) : Prop := ∀ k, k < 30 → w0 k = wi k ∧ w1 k = co k ∧ w2 k = ho k ∧ w3 k = gu k
def CSp (sp ho : Nat → Int32) : Prop := ∀ h, h < 10 → (sp h = nn ∧ ∀ k, k < 30 → ho k ≠ I h) ∨ (∃ k, k < 30 ∧ sp h = I k ∧ ho k = I h)
def cnt (f : Nat → Int32) : Nat → Nat
  | 0 => 0
  | n + 1 => cnt f n + (if f n = nn then 0 else 1)
def CCnt (wc hc wi ho : Nat → Int32) : Prop := (∃ n, wc 0 = I n ∧ cnt wi 30 = 2 * n) ∧ hc 0 = I (cnt ho 30)
def CLane (c0 c1 tr la ln : Nat → Int32) : Prop := ∀ k, k < 30 → c1 k = ln k ∧ (tr k = I 0 → ∀ a, 1 ≤ a → a ≤ 3 → ln k = I a → c0 k = I (2 ^ (a - 1))) ∧ (tr k = I 1 → c0 k = la k)
def CTree (t1 t2 t3 t4 ro fa hp rp : Nat → Int32) : Prop := ∀ j, j < 6 → t1 j = ro j ∧ t2 j = fa j ∧ t3 j = hp j ∧ (rp j = nn → t4 j = nn) ∧ (∀ p, p < 5 → rp j = I (5 * j + p) → t4 j = I p)
def CPort (t5 t6 t7 t8 wi sh se op role st : Nat → Int32) : Prop := ∀ k, k < 30 → t6 k = op k ∧ t7 k = role k ∧ (sh k = I 0 → t5 k = I 0) ∧ (sh k = I 1 → se k = I 0 → t5 k = nn) ∧ (sh k = I 1 → se k ≠ I 0 → t5 k = se k) ∧ (wi k = nn → t8 k = I 0) ∧ (op k = I 1 → t8 k = I 0) ∧ (wi k ≠ nn → op k = I 0 → t8 k = st k)
def CNow (t9 s9 no li : Nat → Int32) : Prop := t9 0 = no 0 ∧ s9 0 = li 0
def CGot (s6 s7 s8 fl go ov : Nat → Int32) : Prop := (∀ k, k < 30 → s6 k = fl k) ∧ ∀ h, h < 10 → s7 h = go h ∧ s8 h = ov h
/-- a switch's table: n rows, the place of each, the contents of the places -/
def Ent (en el eh ep eb : Nat → Int32) (s n : Nat) (P : Nat → Nat) (c0 c1 : Nat → Int32) : Prop :=
  n ≤ 8 ∧ en s = I n ∧ (∀ i, i < n → P i < 30 ∧ el (8 * s + i) = I (P i / 10 + 1) ∧ eh (8 * s + i) = I (P i % 10) ∧ isI 5 (ep (8 * s + i)) ∧ c0 (P i) = ep (8 * s + i) ∧ c1 (P i) = eb (8 * s + i)) ∧
    (∀ i j, i < n → j < n → P i = P j → i = j) ∧ (∀ o, o < 30 → c0 o ≠ nn → ∃ i, i < n ∧ P i = o)
def CTab (b0 b1 b2 en el eh ep eb : Nat → Int32) : Prop := ∀ s, s < 6 → ∃ n P, Ent en el eh ep eb s n P (fun o => b0 (30 * s + o)) (fun o => b1 (30 * s + o)) ∧ b2 s = I n
def Rel (N : Nat) (cs cw ct cl cb mm : St) : Prop :=
  PRank (mm 2) ∧ PWire (mm 3) (mm 4) ∧ PHouse (mm 3) (mm 5) ∧ PGuard (mm 6) ∧ PLane (mm 7) (mm 8) (mm 9) ∧ PNow N (mm 0) (mm 1) ∧ PTree (mm 16) (mm 17) (mm 18) (mm 19) ∧
  PPort N (mm 3) (mm 5) (mm 10) (mm 11) (mm 12) (mm 13) (mm 14) (mm 19) ∧ PTab (mm 10) (mm 14) ∧ CRank (cw 5) (mm 2) ∧ CWire (cw 0) (cw 1) (cw 2) (cw 3) (mm 3) (mm 4) (mm 5) (mm 6) ∧
  CSp (cw 4) (mm 5) ∧ CCnt (cw 6) (cw 7) (mm 3) (mm 5) ∧ CLane (cl 0) (cl 1) (mm 7) (mm 8) (mm 9) ∧ CTree (ct 1) (ct 2) (ct 3) (ct 4) (mm 16) (mm 17) (mm 18) (mm 19) ∧
  CPort (ct 5) (ct 6) (ct 7) (ct 8) (mm 3) (mm 10) (mm 11) (mm 12) (mm 13) (mm 14) ∧ CNow (ct 9) (cs 9) (mm 0) (mm 1) ∧ CGot (cs 6) (cs 7) (cs 8) (mm 15) (mm 29) (mm 30) ∧ CTab (cb 0) (cb 1) (cb 2) (mm 24) (mm 25) (mm 26) (mm 27) (mm 28)
/-- what was thrown last is no part of it -/
theorem Rel.thrown {N : Nat} {cs cw ct cl cb mm : St} (h : Rel N cs cw ct cl cb mm) (x : Int32) : Rel N cs cw ct cl cb (iS mm 40 x) := h

theorem shut_eq {N : Nat} {wi ho sh se op role st rp t5 t6 t7 t8 : Nat → Int32} (hN : N ≤ 100000) (p : PPort N wi ho sh se op role st rp) (c : CPort t5 t6 t7 t8 wi sh se op role st) {k : Nat} (hk : k < 30) : (sh k = I 0 ∧ t5 k = I 0) ∨ (sh k = I 1 ∧ t5 k ≠ I 0) := by
  obtain ⟨s, hs, e⟩ := (p k hk).1
  rcases (show s = 0 ∨ s = 1 by omega) with rfl | rfl
  · exact Or.inl ⟨e, (c k hk).2.2.1 e⟩
  · right
    refine ⟨e, fun z => ?_⟩
    obtain ⟨q, hq, e3⟩ := (p k hk).2.2.2.1
    cases q with
    | zero =>
      rw [(c k hk).2.2.2.1 e e3, nn_I (by omega)] at z
      exact z
    | succ q =>
      rw [(c k hk).2.2.2.2.1 e (by rw [e3, ne_eq, I_inj (by omega) (by omega)]; omega), e3, I_inj (by omega) (by omega)] at z
      omega
theorem PTab.put {sh st : Nat → Int32} (h : PTab sh st) (w : Nat) : PTab sh (upd st w (I 0)) := by
  intro k hk e
  rw [upd_at]
  by_cases d : k = w
  · rw [if_pos d]
  · rw [if_neg d]; exact h k hk e
theorem PTab.free {sh st : Nat → Int32} (h : PTab sh st) (w : Nat) : PTab (upd sh w (I 0)) st := by
  intro k hk e
  rw [upd_at] at e
  by_cases d : k = w
  · rw [if_pos d, I_inj (by omega) (by omega)] at e
    omega
  · rw [if_neg d] at e; exact h k hk e
theorem PTab.shut {sh st : Nat → Int32} (h : PTab sh st) (w : Nat) (x : Int32) : PTab (upd sh w x) (upd st w (I 0)) := by
  intro k hk e
  rw [upd_at] at e
  rw [upd_at]
  by_cases d : k = w
  · rw [if_pos d]
  · rw [if_neg d] at e
    rw [if_neg d]
    exact h k hk e

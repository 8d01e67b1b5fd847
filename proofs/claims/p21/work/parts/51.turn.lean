/-! ===== roles, and ports that open and close ===== -/
def PP1 (N : Nat) (wi ho sh se op role st rp : Nat → Int32) (k : Nat) : Prop := isI 2 (sh k) ∧ isI 2 (op k) ∧ isI 4 (role k) ∧ (∃ e, e ≤ N + 5 ∧ se k = I e) ∧ (sh k = I 0 → se k = I 0) ∧ (op k = I 1 → sh k = I 0 ∧ (wi k ≠ nn ∨ ho k ≠ nn)) ∧ (wi k = nn → role k = I 0) ∧ (role k = I 1 → rp (k / 5) = I k) ∧ (∃ q, q ≤ N ∧ st k = I q ∧ (wi k ≠ nn → op k = I 0 → q ≤ 2))
def CP1 (t5 t6 t7 t8 wi sh se op role st : Nat → Int32) (k : Nat) : Prop := t6 k = op k ∧ t7 k = role k ∧ (sh k = I 0 → t5 k = I 0) ∧ (sh k = I 1 → se k = I 0 → t5 k = nn) ∧ (sh k = I 1 → se k ≠ I 0 → t5 k = se k) ∧ (wi k = nn → t8 k = I 0) ∧ (op k = I 1 → t8 k = I 0) ∧ (wi k ≠ nn → op k = I 0 → t8 k = st k)
def FrG (lo z k : Nat) (a b : St) : Prop := (∀ q, ¬ (lo ≤ q ∧ q ≤ lo + 2) → q ≠ z → b q = a q) ∧ (∀ q x, q ≠ z → x ≠ k → b q x = a q x) ∧ ∀ j, j ≠ k / 5 → b z j = a z j
theorem FrG.refl (lo z k : Nat) (a : St) : FrG lo z k a a := ⟨fun _ _ _ => rfl, fun _ _ _ _ => rfl, fun _ _ => rfl⟩
theorem FrG.trans {lo z k : Nat} {a b c : St} (h : FrG lo z k a b) (g : FrG lo z k b c) : FrG lo z k a c := ⟨fun q h1 h2 => (g.1 q h1 h2).trans (h.1 q h1 h2), fun q x h1 h2 => (g.2.1 q x h1 h2).trans (h.2.1 q x h1 h2), fun j h1 => (g.2.2 j h1).trans (h.2.2 j h1)⟩
theorem FrG.s {lo z k : Nat} (a : St) {p : Nat} (v : Int32) (hk : k < 30) (h1 : lo ≤ p) (h2 : p ≤ lo + 2) (h3 : lo + 2 < z) : FrG lo z k a (aS a p (I k) v) := by
  have e : (I k).toNatClampNeg = k := I_nat (by omega)
  refine ⟨fun q h h' => ?_, fun q x h h' => ?_, fun j h => ?_⟩
  · rw [aS_at, if_neg]; intro e; subst e; exact h ⟨h1, h2⟩
  · rw [aS_at]
    by_cases y : q = p
    · rw [if_pos y, e, upd_at, if_neg h', y]
    · rw [if_neg y]
  · rw [aS_at, if_neg (by omega)]
def FW (sh op role st : Nat → Int32) (k : Nat) : Prop := (sh k = I 0 → op k = I 0 → ((role k = I 1 ∨ role k = I 2) ↔ st k ≠ I 0)) ∧ (sh k = I 1 → role k = I 0 ∧ st k = I 0)
theorem FW.no {sh op role st : Nat → Int32} {k : Nat} (hn : ¬ sh k = I 1) (hr : role k = I 3) (hs : st k = I 0) : FW sh op role st k := by
  refine ⟨fun _ _ => ?_, fun e => absurd e hn⟩
  rw [hr, hs, I_inj (by omega) (by omega), I_inj (by omega) (by omega)]
  exact ⟨fun e => absurd e (by omega), fun e => absurd rfl e⟩
theorem FW.yes {sh op role st : Nat → Int32} {k q : Nat} (hn : ¬ sh k = I 1) (hr : role k = I 1 ∨ role k = I 2) (hq : q < 200000) (hs : st k = I (q + 1)) : FW sh op role st k := by
  refine ⟨fun _ _ => ⟨fun _ => ?_, fun _ => hr⟩, fun e => absurd e hn⟩
  rw [hs, ne_eq, I_inj (by omega) (by omega)]
  omega
theorem FW.shut {sh op role st : Nat → Int32} {k : Nat} (hn : ¬ sh k = I 0) (hr : role k = I 0) (hs : st k = I 0) : FW sh op role st k := ⟨fun e => absurd e hn, fun _ => ⟨hr, hs⟩⟩
theorem FrG.z {lo z k : Nat} (a : St) (v : Int32) (hk : k < 30) : FrG lo z k a (aS a z (I (k / 5)) v) := by
  have e : (I (k / 5)).toNatClampNeg = k / 5 := I_nat (by omega)
  refine ⟨fun q h h' => ?_, fun q x h h' => ?_, fun j h => ?_⟩
  · rw [aS_at, if_neg h']
  · rw [aS_at, if_neg h]
  · rw [aS_at, if_pos rfl, e, upd_at, if_neg h]
/-- held against what came, on both sides -/
theorem ahead_both {V : Nat → Nat → Nat} {ct cw mm : St} (n1 : TN V (cw 5)) (n2 : TN V (mm 2)) (t1 : TC V (ct 10) (ct 11) (ct 12) (cw 0) (cw 1)) (t2 : TC V (mm 20) (mm 21) (mm 22) (mm 3) (mm 4)) (hB : TB V) {k R P : Nat} (hk : k < 30) (tk : V 5 k ≠ 0) (hR : R < 6) (hP : P < 2000) (c1 : ct 1 (k / 5) = I R) (c2 : ct 2 (k / 5) = I P) (m1 : mm 16 (k / 5) = I R) (m2 : mm 17 (k / 5) = I P) : ∃ v, v < 2 ∧ fX3_isHeldBetter ct cw (I k) = some (I v) ∧ fX6_isAhead mm (I (k / 5)) (I k) = some (I v) ∧ (nk V (V 0 k) < nk V R → v = 0) := by
  obtain ⟨a1, a2, a3, a4, a5⟩ := (t1 k hk).2 tk
  obtain ⟨b1, b2, b3, b4, b5⟩ := (t2 k hk).2 tk
  obtain ⟨d1, d2, d3, d4, d5, d6⟩ := hB.1 k hk tk
  have hs : k / 5 < 6 := by omega
  have hj : V 3 k / 5 < 6 := by omega
  by_cases e : R = V 0 k
  · by_cases e2 : P = V 1 k
    · refine ⟨if nk V (k / 5) < nk V (V 3 k / 5) then 1 else 0, ?_, ?_, ?_, fun w => ?_⟩
      · split <;> omega
      · by_cases z : nk V (k / 5) < nk V (V 3 k / 5)
        · simp (disch := omega) only [fX3_isHeldBetter, name_c n1 hs hj, ck1, bd1, bx1, bx2, aS_at, iS_at, upd_at, ↓reduceIte, Nat.reduceEqDiff, Nat.reduceAdd, Nat.reduceMul, Nat.reduceSub, Nat.reduceDiv, Nat.reduceLT, Nat.reduceLeDiff, Nat.reduceBEq, ne_eq, not_true_eq_false, not_false_eq_true, reduceCtorEq, if_true, if_false, eq_self, Nat.add_zero, Nat.zero_add, lit, lit_nn, I_nat, I_add, I_mul, I_sub, I_div, inb_t, I_ne, I_nn, nn_I, nn_lt, nn_le, lt_nn, le_nn, I_t, I_f, I_lt_t, I_lt_f, isb_0, isb_1, vz_0, vz_1, nn_nat, a1, a2, a4, c1, c2, e, e2, z]
        · simp (disch := omega) only [fX3_isHeldBetter, name_c n1 hs hj, ck1, bd1, bx1, bx2, aS_at, iS_at, upd_at, ↓reduceIte, Nat.reduceEqDiff, Nat.reduceAdd, Nat.reduceMul, Nat.reduceSub, Nat.reduceDiv, Nat.reduceLT, Nat.reduceLeDiff, Nat.reduceBEq, ne_eq, not_true_eq_false, not_false_eq_true, reduceCtorEq, if_true, if_false, eq_self, Nat.add_zero, Nat.zero_add, lit, lit_nn, I_nat, I_add, I_mul, I_sub, I_div, inb_t, I_ne, I_nn, nn_I, nn_lt, nn_le, lt_nn, le_nn, I_t, I_f, I_lt_t, I_lt_f, isb_0, isb_1, vz_0, vz_1, nn_nat, a1, a2, a4, c1, c2, e, e2, z]
      · by_cases z : nk V (k / 5) < nk V (V 3 k / 5)
        · simp (disch := omega) only [fX6_isAhead, name_m n2 hs hj, ck1, bd1, bx1, bx2, aS_at, iS_at, upd_at, ↓reduceIte, Nat.reduceEqDiff, Nat.reduceAdd, Nat.reduceMul, Nat.reduceSub, Nat.reduceDiv, Nat.reduceLT, Nat.reduceLeDiff, Nat.reduceBEq, ne_eq, not_true_eq_false, not_false_eq_true, reduceCtorEq, if_true, if_false, eq_self, Nat.add_zero, Nat.zero_add, lit, lit_nn, I_nat, I_add, I_mul, I_sub, I_div, inb_t, I_ne, I_nn, nn_I, nn_lt, nn_le, lt_nn, le_nn, I_t, I_f, I_lt_t, I_lt_f, isb_0, isb_1, vz_0, vz_1, nn_nat, b1, b2, b4, m1, m2, e, e2, z]
        · simp (disch := omega) only [fX6_isAhead, name_m n2 hs hj, ck1, bd1, bx1, bx2, aS_at, iS_at, upd_at, ↓reduceIte, Nat.reduceEqDiff, Nat.reduceAdd, Nat.reduceMul, Nat.reduceSub, Nat.reduceDiv, Nat.reduceLT, Nat.reduceLeDiff, Nat.reduceBEq, ne_eq, not_true_eq_false, not_false_eq_true, reduceCtorEq, if_true, if_false, eq_self, Nat.add_zero, Nat.zero_add, lit, lit_nn, I_nat, I_add, I_mul, I_sub, I_div, inb_t, I_ne, I_nn, nn_I, nn_lt, nn_le, lt_nn, le_nn, I_t, I_f, I_lt_t, I_lt_f, isb_0, isb_1, vz_0, vz_1, nn_nat, b1, b2, b4, m1, m2, e, e2, z]
      · rw [e] at w; omega
    · by_cases z : P < V 1 k
      · refine ⟨1, by omega, ?_, ?_, fun w => ?_⟩
        · simp (disch := omega) only [fX3_isHeldBetter, ck1, bd1, bx1, bx2, aS_at, iS_at, upd_at, ↓reduceIte, Nat.reduceEqDiff, Nat.reduceAdd, Nat.reduceMul, Nat.reduceSub, Nat.reduceDiv, Nat.reduceLT, Nat.reduceLeDiff, Nat.reduceBEq, ne_eq, not_true_eq_false, not_false_eq_true, reduceCtorEq, if_true, if_false, eq_self, Nat.add_zero, Nat.zero_add, lit, lit_nn, I_nat, I_add, I_mul, I_sub, I_div, inb_t, I_ne, I_nn, nn_I, nn_lt, nn_le, lt_nn, le_nn, I_t, I_f, I_lt_t, I_lt_f, isb_0, isb_1, vz_0, vz_1, nn_nat, a1, a2, c1, c2, e]
        · simp (disch := omega) only [fX6_isAhead, ck1, bd1, bx1, bx2, aS_at, iS_at, upd_at, ↓reduceIte, Nat.reduceEqDiff, Nat.reduceAdd, Nat.reduceMul, Nat.reduceSub, Nat.reduceDiv, Nat.reduceLT, Nat.reduceLeDiff, Nat.reduceBEq, ne_eq, not_true_eq_false, not_false_eq_true, reduceCtorEq, if_true, if_false, eq_self, Nat.add_zero, Nat.zero_add, lit, lit_nn, I_nat, I_add, I_mul, I_sub, I_div, inb_t, I_ne, I_nn, nn_I, nn_lt, nn_le, lt_nn, le_nn, I_t, I_f, I_lt_t, I_lt_f, isb_0, isb_1, vz_0, vz_1, nn_nat, b1, b2, m1, m2, e]
        · rw [e] at w; omega
      · refine ⟨0, by omega, ?_, ?_, fun w => ?_⟩
        · simp (disch := omega) only [fX3_isHeldBetter, ck1, bd1, bx1, bx2, aS_at, iS_at, upd_at, ↓reduceIte, Nat.reduceEqDiff, Nat.reduceAdd, Nat.reduceMul, Nat.reduceSub, Nat.reduceDiv, Nat.reduceLT, Nat.reduceLeDiff, Nat.reduceBEq, ne_eq, not_true_eq_false, not_false_eq_true, reduceCtorEq, if_true, if_false, eq_self, Nat.add_zero, Nat.zero_add, lit, lit_nn, I_nat, I_add, I_mul, I_sub, I_div, inb_t, I_ne, I_nn, nn_I, nn_lt, nn_le, lt_nn, le_nn, I_t, I_f, I_lt_t, I_lt_f, isb_0, isb_1, vz_0, vz_1, nn_nat, a1, a2, c1, c2, e]
        · simp (disch := omega) only [fX6_isAhead, ck1, bd1, bx1, bx2, aS_at, iS_at, upd_at, ↓reduceIte, Nat.reduceEqDiff, Nat.reduceAdd, Nat.reduceMul, Nat.reduceSub, Nat.reduceDiv, Nat.reduceLT, Nat.reduceLeDiff, Nat.reduceBEq, ne_eq, not_true_eq_false, not_false_eq_true, reduceCtorEq, if_true, if_false, eq_self, Nat.add_zero, Nat.zero_add, lit, lit_nn, I_nat, I_add, I_mul, I_sub, I_div, inb_t, I_ne, I_nn, nn_I, nn_lt, nn_le, lt_nn, le_nn, I_t, I_f, I_lt_t, I_lt_f, isb_0, isb_1, vz_0, vz_1, nn_nat, b1, b2, m1, m2, e]
        · rfl
  · refine ⟨if nk V R < nk V (V 0 k) then 1 else 0, ?_, ?_, ?_, fun w => ?_⟩
    · split <;> omega
    · by_cases z : nk V R < nk V (V 0 k)
      · simp (disch := omega) only [fX3_isHeldBetter, name_c n1 hR d1, ck1, bd1, bx1, bx2, aS_at, iS_at, upd_at, ↓reduceIte, Nat.reduceEqDiff, Nat.reduceAdd, Nat.reduceMul, Nat.reduceSub, Nat.reduceDiv, Nat.reduceLT, Nat.reduceLeDiff, Nat.reduceBEq, ne_eq, not_true_eq_false, not_false_eq_true, reduceCtorEq, if_true, if_false, eq_self, Nat.add_zero, Nat.zero_add, lit, lit_nn, I_nat, I_add, I_mul, I_sub, I_div, inb_t, I_ne, I_nn, nn_I, nn_lt, nn_le, lt_nn, le_nn, I_t, I_f, I_lt_t, I_lt_f, isb_0, isb_1, vz_0, vz_1, nn_nat, a1, c1, z]
      · simp (disch := omega) only [fX3_isHeldBetter, name_c n1 hR d1, ck1, bd1, bx1, bx2, aS_at, iS_at, upd_at, ↓reduceIte, Nat.reduceEqDiff, Nat.reduceAdd, Nat.reduceMul, Nat.reduceSub, Nat.reduceDiv, Nat.reduceLT, Nat.reduceLeDiff, Nat.reduceBEq, ne_eq, not_true_eq_false, not_false_eq_true, reduceCtorEq, if_true, if_false, eq_self, Nat.add_zero, Nat.zero_add, lit, lit_nn, I_nat, I_add, I_mul, I_sub, I_div, inb_t, I_ne, I_nn, nn_I, nn_lt, nn_le, lt_nn, le_nn, I_t, I_f, I_lt_t, I_lt_f, isb_0, isb_1, vz_0, vz_1, nn_nat, a1, c1, z]
    · by_cases z : nk V R < nk V (V 0 k)
      · simp (disch := omega) only [fX6_isAhead, name_m n2 hR d1, ck1, bd1, bx1, bx2, aS_at, iS_at, upd_at, ↓reduceIte, Nat.reduceEqDiff, Nat.reduceAdd, Nat.reduceMul, Nat.reduceSub, Nat.reduceDiv, Nat.reduceLT, Nat.reduceLeDiff, Nat.reduceBEq, ne_eq, not_true_eq_false, not_false_eq_true, reduceCtorEq, if_true, if_false, eq_self, Nat.add_zero, Nat.zero_add, lit, lit_nn, I_nat, I_add, I_mul, I_sub, I_div, inb_t, I_ne, I_nn, nn_I, nn_lt, nn_le, lt_nn, le_nn, I_t, I_f, I_lt_t, I_lt_f, isb_0, isb_1, vz_0, vz_1, nn_nat, b1, m1, z]
      · simp (disch := omega) only [fX6_isAhead, name_m n2 hR d1, ck1, bd1, bx1, bx2, aS_at, iS_at, upd_at, ↓reduceIte, Nat.reduceEqDiff, Nat.reduceAdd, Nat.reduceMul, Nat.reduceSub, Nat.reduceDiv, Nat.reduceLT, Nat.reduceLeDiff, Nat.reduceBEq, ne_eq, not_true_eq_false, not_false_eq_true, reduceCtorEq, if_true, if_false, eq_self, Nat.add_zero, Nat.zero_add, lit, lit_nn, I_nat, I_add, I_mul, I_sub, I_div, inb_t, I_ne, I_nn, nn_I, nn_lt, nn_le, lt_nn, le_nn, I_t, I_f, I_lt_t, I_lt_f, isb_0, isb_1, vz_0, vz_1, nn_nat, b1, m1, z]
    · rw [if_neg (by omega)]
/-- the role of a port with a wire that is not shut -/
theorem role_both {V : Nat → Nat → Nat} {ct cw mm : St} (n1 : TN V (cw 5)) (n2 : TN V (mm 2)) (t1 : TC V (ct 10) (ct 11) (ct 12) (cw 0) (cw 1)) (t2 : TC V (mm 20) (mm 21) (mm 22) (mm 3) (mm 4)) (hB : TB V) {k : Nat} (hk : k < 30) (hb : HB V (k / 5) (ct 1) (ct 2) (ct 3) (ct 4) (mm 16) (mm 17) (mm 18) (mm 19) (mm 23)) (hw : cw 0 k = mm 3 k) (h3 : mm 3 k ≠ nn) (h10 : mm 10 k = I 0) (h5 : ct 5 k = I 0) : ∃ r, 1 ≤ r ∧ r ≤ 3 ∧ fX3_roleOf ct cw (I k) = some (I r) ∧ fX6_roleOf mm (I k) = some (I r) ∧ (r = 1 ↔ mm 19 (k / 5) = I k) := by
  have hs : k / 5 < 6 := by omega
  have c0 : ¬ cw 0 k = nn := by rw [hw]; exact h3
  have m3 : ¬ mm 3 k = nn := h3
  have ek : k - k / 5 * 5 = k % 5 := by omega
  obtain ⟨b, q1, q2, q3, q4⟩ := hb
  obtain ⟨R, P, hR, hP, eR, x1, x2, y1, y2, y3⟩ : ∃ R P, R < 6 ∧ P < 2000 ∧ R = rt V (k / 5) b ∧ ct 1 (k / 5) = I R ∧ ct 2 (k / 5) = I P ∧ mm 16 (k / 5) = I R ∧ mm 17 (k / 5) = I P ∧ ((b = 30 ∧ ct 4 (k / 5) = nn ∧ mm 19 (k / 5) = nn) ∨ (b < 30 ∧ b / 5 = k / 5 ∧ V 5 b ≠ 0 ∧ ct 4 (k / 5) = I (b % 5) ∧ mm 19 (k / 5) = I b)) := by
    rcases q1 with ⟨e, f1, f2, f3, f4⟩ | ⟨e, e5, tb, -, f1, f2, f3, f4⟩
    · rcases q2 with ⟨-, g1, g2, g3, g4⟩ | ⟨e', -⟩
      · exact ⟨k / 5, 0, hs, by omega, by unfold rt; rw [if_pos e], f1, f2, g1, g2, Or.inl ⟨e, f4, g4⟩⟩
      · omega
    · rcases q2 with ⟨e', -⟩ | ⟨-, -, -, -, g1, g2, g3, g4⟩
      · omega
      · obtain ⟨d1, d2, d3, d4, d5, d6⟩ := hB.1 b e tb
        exact ⟨V 0 b, V 1 b + V 4 b, d1, by omega, by unfold rt; rw [if_neg (by omega)], f1, f2, g1, g2, Or.inr ⟨e, e5, tb, f4, g4⟩⟩
  by_cases eb : b = k
  · rcases y3 with ⟨e, -⟩ | ⟨-, -, tb, f4, g4⟩
    · omega
    · rw [eb] at f4 g4 tb
      obtain ⟨b1, -⟩ := (t2 k hk).2 tb
      obtain ⟨d1, -⟩ := hB.1 k hk tb
      have m23 : mm 23 k = I 1 := by
        rcases q4 k hk rfl tb with w | ⟨-, w⟩
        · exact w
        · rw [show rt V (k / 5) b = V 0 k by unfold rt; rw [if_neg (by omega), eb]] at w
          omega
      refine ⟨1, by omega, by omega, ?_, ?_, fun _ => g4, fun _ => rfl⟩
      · simp (disch := omega) only [fX3_roleOf, isShut_t ct hk h5, ck1, bd1, bx1, bx2, aS_at, iS_at, upd_at, ↓reduceIte, Nat.reduceEqDiff, Nat.reduceAdd, Nat.reduceMul, Nat.reduceSub, Nat.reduceDiv, Nat.reduceLT, Nat.reduceLeDiff, Nat.reduceBEq, ne_eq, not_true_eq_false, not_false_eq_true, reduceCtorEq, if_true, if_false, eq_self, Nat.add_zero, Nat.zero_add, lit, lit_nn, I_nat, I_add, I_mul, I_sub, I_div, inb_t, I_ne, I_nn, nn_I, nn_lt, nn_le, lt_nn, le_nn, I_t, I_f, I_lt_t, I_lt_f, isb_0, isb_1, vz_0, vz_1, nn_nat, c0, f4, ek]
      · simp (disch := omega) only [fX6_roleOf_J46, fX6_roleOf, ck1, bd1, bx1, bx2, aS_at, iS_at, upd_at, ↓reduceIte, Nat.reduceEqDiff, Nat.reduceAdd, Nat.reduceMul, Nat.reduceSub, Nat.reduceDiv, Nat.reduceLT, Nat.reduceLeDiff, Nat.reduceBEq, ne_eq, not_true_eq_false, not_false_eq_true, reduceCtorEq, if_true, if_false, eq_self, Nat.add_zero, Nat.zero_add, lit, lit_nn, I_nat, I_add, I_mul, I_sub, I_div, inb_t, I_ne, I_nn, nn_I, nn_lt, nn_le, lt_nn, le_nn, I_t, I_f, I_lt_t, I_lt_f, isb_0, isb_1, vz_0, vz_1, nn_nat, m3, h10, b1, m23, g4, I01]
  · have nc : ¬ ct 4 (k / 5) = I (k % 5) := by
      rcases y3 with ⟨-, f4, -⟩ | ⟨e, e5, -, f4, -⟩
      · rw [f4, nn_I (by omega)]; exact id
      · rw [f4, I_inj (by omega) (by omega)]; omega
    have nm : ¬ mm 19 (k / 5) = I k := by
      rcases y3 with ⟨-, -, g4⟩ | ⟨e, -, -, -, g4⟩
      · rw [g4, nn_I (by omega)]; exact id
      · rw [g4, I_inj (by omega) (by omega)]; exact eb
    by_cases tk : V 5 k = 0
    · have a1 := (t1 k hk).1 tk
      have b1 := (t2 k hk).1 tk
      refine ⟨2, by omega, by omega, ?_, ?_, fun w => absurd w (by omega), fun w => absurd w nm⟩
      · simp (disch := omega) only [fX3_roleOf, isShut_t ct hk h5, ck1, bd1, bx1, bx2, aS_at, iS_at, upd_at, ↓reduceIte, Nat.reduceEqDiff, Nat.reduceAdd, Nat.reduceMul, Nat.reduceSub, Nat.reduceDiv, Nat.reduceLT, Nat.reduceLeDiff, Nat.reduceBEq, ne_eq, not_true_eq_false, not_false_eq_true, reduceCtorEq, if_true, if_false, eq_self, Nat.add_zero, Nat.zero_add, lit, lit_nn, I_nat, I_add, I_mul, I_sub, I_div, inb_t, I_ne, I_nn, nn_I, nn_lt, nn_le, lt_nn, le_nn, I_t, I_f, I_lt_t, I_lt_f, isb_0, isb_1, vz_0, vz_1, nn_nat, c0, nc, a1, ek]
      · simp (disch := omega) only [fX6_roleOf_J46, fX6_roleOf, ck1, bd1, bx1, bx2, aS_at, iS_at, upd_at, ↓reduceIte, Nat.reduceEqDiff, Nat.reduceAdd, Nat.reduceMul, Nat.reduceSub, Nat.reduceDiv, Nat.reduceLT, Nat.reduceLeDiff, Nat.reduceBEq, ne_eq, not_true_eq_false, not_false_eq_true, reduceCtorEq, if_true, if_false, eq_self, Nat.add_zero, Nat.zero_add, lit, lit_nn, I_nat, I_add, I_mul, I_sub, I_div, inb_t, I_ne, I_nn, nn_I, nn_lt, nn_le, lt_nn, le_nn, I_t, I_f, I_lt_t, I_lt_f, isb_0, isb_1, vz_0, vz_1, nn_nat, m3, h10, b1, nm]
    · obtain ⟨a1, -⟩ := (t1 k hk).2 tk
      obtain ⟨b1, -⟩ := (t2 k hk).2 tk
      obtain ⟨d1, -⟩ := hB.1 k hk tk
      obtain ⟨v, hv, z1, z2, z3⟩ := ahead_both n1 n2 t1 t2 hB hk tk hR hP x1 x2 y1 y2
      rcases q4 k hk rfl tk with w | ⟨w, w2⟩
      · rcases (show v = 0 ∨ v = 1 by omega) with rfl | rfl
        · refine ⟨3, by omega, by omega, ?_, ?_, fun w => absurd w (by omega), fun w => absurd w nm⟩
          · simp (disch := omega) only [fX3_roleOf, isShut_t ct hk h5, ck1, bd1, bx1, bx2, aS_at, iS_at, upd_at, ↓reduceIte, Nat.reduceEqDiff, Nat.reduceAdd, Nat.reduceMul, Nat.reduceSub, Nat.reduceDiv, Nat.reduceLT, Nat.reduceLeDiff, Nat.reduceBEq, ne_eq, not_true_eq_false, not_false_eq_true, reduceCtorEq, if_true, if_false, eq_self, Nat.add_zero, Nat.zero_add, lit, lit_nn, I_nat, I_add, I_mul, I_sub, I_div, inb_t, I_ne, I_nn, nn_I, nn_lt, nn_le, lt_nn, le_nn, I_t, I_f, I_lt_t, I_lt_f, isb_0, isb_1, vz_0, vz_1, nn_nat, c0, nc, a1, ek, z1]
          · simp (disch := omega) only [fX6_roleOf_J46, fX6_roleOf, ck1, bd1, bx1, bx2, aS_at, iS_at, upd_at, ↓reduceIte, Nat.reduceEqDiff, Nat.reduceAdd, Nat.reduceMul, Nat.reduceSub, Nat.reduceDiv, Nat.reduceLT, Nat.reduceLeDiff, Nat.reduceBEq, ne_eq, not_true_eq_false, not_false_eq_true, reduceCtorEq, if_true, if_false, eq_self, Nat.add_zero, Nat.zero_add, lit, lit_nn, I_nat, I_add, I_mul, I_sub, I_div, inb_t, I_ne, I_nn, nn_I, nn_lt, nn_le, lt_nn, le_nn, I_t, I_f, I_lt_t, I_lt_f, isb_0, isb_1, vz_0, vz_1, nn_nat, m3, h10, b1, nm, w, z2, I01]
        · refine ⟨2, by omega, by omega, ?_, ?_, fun w => absurd w (by omega), fun w => absurd w nm⟩
          · simp (disch := omega) only [fX3_roleOf, isShut_t ct hk h5, ck1, bd1, bx1, bx2, aS_at, iS_at, upd_at, ↓reduceIte, Nat.reduceEqDiff, Nat.reduceAdd, Nat.reduceMul, Nat.reduceSub, Nat.reduceDiv, Nat.reduceLT, Nat.reduceLeDiff, Nat.reduceBEq, ne_eq, not_true_eq_false, not_false_eq_true, reduceCtorEq, if_true, if_false, eq_self, Nat.add_zero, Nat.zero_add, lit, lit_nn, I_nat, I_add, I_mul, I_sub, I_div, inb_t, I_ne, I_nn, nn_I, nn_lt, nn_le, lt_nn, le_nn, I_t, I_f, I_lt_t, I_lt_f, isb_0, isb_1, vz_0, vz_1, nn_nat, c0, nc, a1, ek, z1, I01]
          · simp (disch := omega) only [fX6_roleOf_J46, fX6_roleOf, ck1, bd1, bx1, bx2, aS_at, iS_at, upd_at, ↓reduceIte, Nat.reduceEqDiff, Nat.reduceAdd, Nat.reduceMul, Nat.reduceSub, Nat.reduceDiv, Nat.reduceLT, Nat.reduceLeDiff, Nat.reduceBEq, ne_eq, not_true_eq_false, not_false_eq_true, reduceCtorEq, if_true, if_false, eq_self, Nat.add_zero, Nat.zero_add, lit, lit_nn, I_nat, I_add, I_mul, I_sub, I_div, inb_t, I_ne, I_nn, nn_I, nn_lt, nn_le, lt_nn, le_nn, I_t, I_f, I_lt_t, I_lt_f, isb_0, isb_1, vz_0, vz_1, nn_nat, m3, h10, b1, nm, w, z2, I01]
      · have e0 := z3 (by rw [eR]; exact w2)
        subst e0
        refine ⟨3, by omega, by omega, ?_, ?_, fun w => absurd w (by omega), fun w => absurd w nm⟩
        · simp (disch := omega) only [fX3_roleOf, isShut_t ct hk h5, ck1, bd1, bx1, bx2, aS_at, iS_at, upd_at, ↓reduceIte, Nat.reduceEqDiff, Nat.reduceAdd, Nat.reduceMul, Nat.reduceSub, Nat.reduceDiv, Nat.reduceLT, Nat.reduceLeDiff, Nat.reduceBEq, ne_eq, not_true_eq_false, not_false_eq_true, reduceCtorEq, if_true, if_false, eq_self, Nat.add_zero, Nat.zero_add, lit, lit_nn, I_nat, I_add, I_mul, I_sub, I_div, inb_t, I_ne, I_nn, nn_I, nn_lt, nn_le, lt_nn, le_nn, I_t, I_f, I_lt_t, I_lt_f, isb_0, isb_1, vz_0, vz_1, nn_nat, c0, nc, a1, ek, z1]
        · simp (disch := omega) only [fX6_roleOf_J46, fX6_roleOf, ck1, bd1, bx1, bx2, aS_at, iS_at, upd_at, ↓reduceIte, Nat.reduceEqDiff, Nat.reduceAdd, Nat.reduceMul, Nat.reduceSub, Nat.reduceDiv, Nat.reduceLT, Nat.reduceLeDiff, Nat.reduceBEq, ne_eq, not_true_eq_false, not_false_eq_true, reduceCtorEq, if_true, if_false, eq_self, Nat.add_zero, Nat.zero_add, lit, lit_nn, I_nat, I_add, I_mul, I_sub, I_div, inb_t, I_ne, I_nn, nn_I, nn_lt, nn_le, lt_nn, le_nn, I_t, I_f, I_lt_t, I_lt_f, isb_0, isb_1, vz_0, vz_1, nn_nat, m3, h10, b1, nm, w, z2, I01]

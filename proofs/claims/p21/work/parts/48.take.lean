/-! ===== the class takes the best ===== -/
def Frt (s : Nat) (a b : St) : Prop := (∀ q, q < 1 ∨ 4 < q → b q = a q) ∧ ∀ q j, j ≠ s → b q j = a q j
theorem Frt.refl (s : Nat) (a : St) : Frt s a a := ⟨fun _ _ => rfl, fun _ _ _ => rfl⟩
theorem Frt.trans {s : Nat} {a b c : St} (h : Frt s a b) (k : Frt s b c) : Frt s a c := ⟨fun q hq => (k.1 q hq).trans (h.1 q hq), fun q j hj => (k.2 q j hj).trans (h.2 q j hj)⟩
theorem frt4 (ct : St) {s : Nat} (hs : s < 6) (a b c d : Int32) : Frt s ct (aS (aS (aS (aS ct 1 (I s) a) 2 (I s) b) 3 (I s) c) 4 (I s) d) := by
  refine ⟨fun q hq => ?_, fun q j hj => ?_⟩
  · have n1 : ¬ q = 1 := by omega
    have n2 : ¬ q = 2 := by omega
    have n3 : ¬ q = 3 := by omega
    have n4 : ¬ q = 4 := by omega
    simp only [aS_at, n1, n2, n3, n4, ↓reduceIte]
  · have e : (I s).toNatClampNeg = s := I_nat (by omega)
    have one : ∀ (σ : St) (k : Nat) (x : Int32), aS σ k (I s) x q j = σ q j := by
      intro σ k x
      rw [aS_at]
      by_cases z : q = k
      · rw [if_pos z, e, upd_at, if_neg hj, z]
      · rw [if_neg z]
    rw [one, one, one, one]
theorem offer_eq {V : Nat → Nat → Nat} {ct cw : St} (hN : TN V (cw 5)) (hT : TC V (ct 10) (ct 11) (ct 12) (cw 0) (cw 1)) (hB : TB V) {s k b : Nat} (hk : k < 30) (hs : s < 6) (hks : k / 5 = s) (hh : HeldC V s b (ct 1) (ct 2) (ct 3) (ct 4)) : ∃ ct', fX3_offer ct cw (I s) (I k) = some ct' ∧ Frt s ct ct' ∧ HeldC V s (if V 5 k ≠ 0 ∧ V 2 k < 7 ∧ key V k < hkey V s b then k else b) (ct' 1) (ct' 2) (ct' 3) (ct' 4) := by
  by_cases tk : V 5 k = 0
  · have e := (hT k hk).1 tk
    refine ⟨ct, ?_, Frt.refl _ _, ?_⟩
    · simp (disch := omega) only [fX3_offer, ck1, bd1, bx1, bx2, aS_at, iS_at, upd_at, ↓reduceIte, Nat.reduceEqDiff, Nat.reduceAdd, Nat.reduceMul, Nat.reduceSub, Nat.reduceDiv, Nat.reduceLT, Nat.reduceLeDiff, Nat.reduceBEq, ne_eq, not_true_eq_false, not_false_eq_true, reduceCtorEq, if_true, if_false, eq_self, Nat.add_zero, Nat.zero_add, lit, lit_nn, I_nat, I_add, I_mul, I_sub, I_div, inb_t, I_ne, I_nn, nn_I, nn_lt, nn_le, lt_nn, le_nn, I_t, I_f, I_lt_t, I_lt_f, isb_0, isb_1, vz_0, vz_1, nn_nat, e]
    · rw [if_neg (by omega)]; exact hh
  · obtain ⟨t1, t2, t3, t4, t5⟩ := (hT k hk).2 tk
    obtain ⟨a1, a2, a3, a4, a5, a6⟩ := hB.1 k hk tk
    by_cases h7 : V 2 k < 7
    · by_cases z : key V k < hkey V s b
      · refine ⟨_, ?_, frt4 ct hs (I (V 0 k)) (I (V 1 k + V 4 k)) (I (V 2 k + 1)) (I (k % 5)), ?_⟩
        · have e5 : k - k / 5 * 5 = k % 5 := by omega
          simp (disch := omega) only [fX3_offer, better_c hN hT hB hk hs tk hh, ck1, bd1, bx1, bx2, aS_at, iS_at, upd_at, ↓reduceIte, Nat.reduceEqDiff, Nat.reduceAdd, Nat.reduceMul, Nat.reduceSub, Nat.reduceDiv, Nat.reduceLT, Nat.reduceLeDiff, Nat.reduceBEq, ne_eq, not_true_eq_false, not_false_eq_true, reduceCtorEq, if_true, if_false, eq_self, Nat.add_zero, Nat.zero_add, lit, lit_nn, I_nat, I_add, I_mul, I_sub, I_div, inb_t, I_ne, I_nn, nn_I, nn_lt, nn_le, lt_nn, le_nn, I_t, I_f, I_lt_t, I_lt_f, isb_0, isb_1, vz_0, vz_1, nn_nat, t1, t2, t3, t5, z, I01, e5]
        · rw [if_pos ⟨tk, h7, z⟩]
          refine Or.inr ⟨hk, hks, tk, h7, ?_, ?_, ?_, ?_⟩ <;> simp (disch := omega) only [ck1, bd1, bx1, bx2, aS_at, iS_at, upd_at, ↓reduceIte, Nat.reduceEqDiff, Nat.reduceAdd, Nat.reduceMul, Nat.reduceSub, Nat.reduceDiv, Nat.reduceLT, Nat.reduceLeDiff, Nat.reduceBEq, ne_eq, not_true_eq_false, not_false_eq_true, reduceCtorEq, if_true, if_false, eq_self, Nat.add_zero, Nat.zero_add, lit, lit_nn, I_nat, I_add, I_mul, I_sub, I_div, inb_t, I_ne, I_nn, nn_I, nn_lt, nn_le, lt_nn, le_nn, I_t, I_f, I_lt_t, I_lt_f, isb_0, isb_1, vz_0, vz_1, nn_nat]
      · refine ⟨ct, ?_, Frt.refl _ _, ?_⟩
        · simp (disch := omega) only [fX3_offer, better_c hN hT hB hk hs tk hh, ck1, bd1, bx1, bx2, aS_at, iS_at, upd_at, ↓reduceIte, Nat.reduceEqDiff, Nat.reduceAdd, Nat.reduceMul, Nat.reduceSub, Nat.reduceDiv, Nat.reduceLT, Nat.reduceLeDiff, Nat.reduceBEq, ne_eq, not_true_eq_false, not_false_eq_true, reduceCtorEq, if_true, if_false, eq_self, Nat.add_zero, Nat.zero_add, lit, lit_nn, I_nat, I_add, I_mul, I_sub, I_div, inb_t, I_ne, I_nn, nn_I, nn_lt, nn_le, lt_nn, le_nn, I_t, I_f, I_lt_t, I_lt_f, isb_0, isb_1, vz_0, vz_1, nn_nat, t1, t2, t3, t5, z]
        · rw [if_neg (by omega)]; exact hh
    · refine ⟨ct, ?_, Frt.refl _ _, ?_⟩
      · simp (disch := omega) only [fX3_offer, ck1, bd1, bx1, bx2, aS_at, iS_at, upd_at, ↓reduceIte, Nat.reduceEqDiff, Nat.reduceAdd, Nat.reduceMul, Nat.reduceSub, Nat.reduceDiv, Nat.reduceLT, Nat.reduceLeDiff, Nat.reduceBEq, ne_eq, not_true_eq_false, not_false_eq_true, reduceCtorEq, if_true, if_false, eq_self, Nat.add_zero, Nat.zero_add, lit, lit_nn, I_nat, I_add, I_mul, I_sub, I_div, inb_t, I_ne, I_nn, nn_I, nn_lt, nn_le, lt_nn, le_nn, I_t, I_f, I_lt_t, I_lt_f, isb_0, isb_1, vz_0, vz_1, nn_nat, t1, t3]
      · rw [if_neg (by omega)]; exact hh
/-- what comes by ports without a root guard -/
def Ug (V : Nat → Nat → Nat) (s x : Nat) : Prop := x < 30 ∧ x / 5 = s ∧ V 5 x ≠ 0 ∧ V 2 x < 7 ∧ V 7 x ≠ 1
def rt (V : Nat → Nat → Nat) (s b : Nat) : Nat := if b = 30 then s else V 0 b
/-- what counts -/
def Ct (V : Nat → Nat → Nat) (s b x : Nat) : Prop := V 5 x ≠ 0 ∧ (V 7 x ≠ 1 ∨ ¬ nk V (V 0 x) < nk V (rt V s b))
def Zg (V : Nat → Nat → Nat) (s b x : Nat) : Prop := x < 30 ∧ x / 5 = s ∧ V 2 x < 7 ∧ Ct V s b x
def Bs (V : Nat → Nat → Nat) (s : Nat) (D : Nat → Prop) (b : Nat) : Prop := Bst D (key V) (skey V s) b
theorem Bs.add {V : Nat → Nat → Nat} {s b k : Nat} {D D' : Nat → Prop} (h : Bs V s D b) (hk : k < 30) (e : ∀ x, D' x ↔ (D x ∨ (x = k ∧ V 5 k ≠ 0 ∧ V 2 k < 7))) : Bs V s D' (if V 5 k ≠ 0 ∧ V 2 k < 7 ∧ key V k < hkey V s b then k else b) := by
  by_cases z : V 5 k ≠ 0 ∧ V 2 k < 7
  · have r := Bst.add (D' := D') h hk (fun x => by rw [e x]; constructor <;> (intro w; rcases w with w | w) <;> first | exact Or.inl w | exact Or.inr w.1 | exact Or.inr ⟨w, z.1, z.2⟩)
    have q : (V 5 k ≠ 0 ∧ V 2 k < 7 ∧ key V k < hkey V s b) ↔ key V k < hkey V s b := ⟨fun w => w.2.2, fun w => ⟨z.1, z.2, w⟩⟩
    simp only [q]
    exact r
  · rw [if_neg (fun w => z ⟨w.1, w.2.1⟩)]
    exact Bst.same h (fun x => (e x).trans ⟨fun w => w.elim id (fun w => absurd w.2 z), Or.inl⟩)
theorem Frt.tc {V : Nat → Nat → Nat} {s : Nat} {ct ct' : St} {w0 w1 : Nat → Int32} (h : Frt s ct ct') (hT : TC V (ct 10) (ct 11) (ct 12) w0 w1) : TC V (ct' 10) (ct' 11) (ct' 12) w0 w1 := by
  rw [h.1 10 (by omega), h.1 11 (by omega), h.1 12 (by omega)]
  exact hT
theorem take_c {V : Nat → Nat → Nat} {ct cw : St} (hN : TN V (cw 5)) (hT : TC V (ct 10) (ct 11) (ct 12) (cw 0) (cw 1)) (hB : TB V) (hG : TG V (cw 3)) {s : Nat} (hs : s < 6) : ∃ b1 b ct', fX3_takeBest ct cw (I s) = some ct' ∧ Frt s ct ct' ∧ HeldC V s b (ct' 1) (ct' 2) (ct' 3) (ct' 4) ∧ Bs V s (Ug V s) b1 ∧ Bs V s (Zg V s b1) b := by
  have em : s * 5 + 5 = s * 5 + 5 := rfl
  obtain ⟨c0, hc0⟩ : ∃ c0, c0 = aS (aS (aS (aS ct 1 (I s) (I s)) 2 (I s) (I 0)) 3 (I s) (I 0)) 4 (I s) nn := ⟨_, rfl⟩
  have f0 : Frt s ct c0 := by rw [hc0]; exact frt4 ct hs _ _ _ _
  have h0 : HeldC V s 30 (c0 1) (c0 2) (c0 3) (c0 4) := by
    refine Or.inl ⟨rfl, ?_, ?_, ?_, ?_⟩ <;> (rw [hc0]; simp (disch := omega) only [ck1, bd1, bx1, bx2, aS_at, iS_at, upd_at, ↓reduceIte, Nat.reduceEqDiff, Nat.reduceAdd, Nat.reduceMul, Nat.reduceSub, Nat.reduceDiv, Nat.reduceLT, Nat.reduceLeDiff, Nat.reduceBEq, ne_eq, not_true_eq_false, not_false_eq_true, reduceCtorEq, if_true, if_false, eq_self, Nat.add_zero, Nat.zero_add, lit, lit_nn, I_nat, I_add, I_mul, I_sub, I_div, inb_t, I_ne, I_nn, nn_I, nn_lt, nn_le, lt_nn, le_nn, I_t, I_f, I_lt_t, I_lt_f, isb_0, isb_1, vz_0, vz_1, nn_nat])
  obtain ⟨p, ⟨u1, u2, u3⟩, hl⟩ := loop_up (σ := St × Nat) (step := fun k a => fX3_takeBest_S36 k cw (I s) (I (s * 5)) (a.1) (a.2)) (fun t p => (p.1, I (s * 5 + t))) 5 (fun t p => Frt s ct p.1 ∧ HeldC V s p.2 (p.1 1) (p.1 2) (p.1 3) (p.1 4) ∧ Bs V s (fun x => Ug V s x ∧ x < s * 5 + t) p.2) (fun p => fX3_takeBest_J68 p.1 cw (I s) (I (s * 5)))
    (by
      intro t p ht ⟨u1, u2, u3⟩
      obtain ⟨g1, g2⟩ := hG (s * 5 + t) (by omega)
      have hk5 : (s * 5 + t) / 5 = s := by omega
      by_cases z : V 7 (s * 5 + t) = 1
      · refine ⟨p, ⟨u1, u2, u3.same fun x => ?_⟩, fun rec => ?_⟩
        · constructor
          · rintro ⟨w1, w2⟩
            refine ⟨w1, ?_⟩
            apply Classical.byContradiction
            intro w3
            have e : x = s * 5 + t := by omega
            subst e
            exact w1.2.2.2.2 z
          · exact fun ⟨w1, w2⟩ => ⟨w1, by omega⟩
        · simp (disch := omega) only [fX3_takeBest_S36, ck1, bd1, bx1, bx2, aS_at, iS_at, upd_at, ↓reduceIte, Nat.reduceEqDiff, Nat.reduceAdd, Nat.reduceMul, Nat.reduceSub, Nat.reduceDiv, Nat.reduceLT, Nat.reduceLeDiff, Nat.reduceBEq, ne_eq, not_true_eq_false, not_false_eq_true, reduceCtorEq, if_true, if_false, eq_self, Nat.add_zero, Nat.zero_add, lit, lit_nn, I_nat, I_add, I_mul, I_sub, I_div, inb_t, I_ne, I_nn, nn_I, nn_lt, nn_le, lt_nn, le_nn, I_t, I_f, I_lt_t, I_lt_f, isb_0, isb_1, vz_0, vz_1, nn_nat, g2, z, Nat.add_assoc]
      · obtain ⟨c', o1, o2, o3⟩ := offer_eq hN (u1.tc hT) hB (show s * 5 + t < 30 by omega) hs hk5 u2
        refine ⟨(c', _), ⟨u1.trans o2, o3, u3.add (by omega) fun x => ?_⟩, fun rec => ?_⟩
        · constructor
          · rintro ⟨w1, w2⟩
            by_cases e : x = s * 5 + t
            · subst e
              exact Or.inr ⟨rfl, w1.2.2.1, w1.2.2.2.1⟩
            · exact Or.inl ⟨w1, by omega⟩
          · rintro (⟨w1, w2⟩ | ⟨e, w1, w2⟩)
            · exact ⟨w1, by omega⟩
            · subst e
              exact ⟨⟨by omega, hk5, w1, w2, z⟩, by omega⟩
        · simp (disch := omega) only [fX3_takeBest_S36, ck1, bd1, bx1, bx2, aS_at, iS_at, upd_at, ↓reduceIte, Nat.reduceEqDiff, Nat.reduceAdd, Nat.reduceMul, Nat.reduceSub, Nat.reduceDiv, Nat.reduceLT, Nat.reduceLeDiff, Nat.reduceBEq, ne_eq, not_true_eq_false, not_false_eq_true, reduceCtorEq, if_true, if_false, eq_self, Nat.add_zero, Nat.zero_add, lit, lit_nn, I_nat, I_add, I_mul, I_sub, I_div, inb_t, I_ne, I_nn, nn_I, nn_lt, nn_le, lt_nn, le_nn, I_t, I_f, I_lt_t, I_lt_f, isb_0, isb_1, vz_0, vz_1, nn_nat, g2, z, o1, I_inj, Nat.add_assoc])
    (by
      intro p _ rec
      simp (disch := omega) only [fX3_takeBest_S36, ck1, bd1, bx1, bx2, aS_at, iS_at, upd_at, ↓reduceIte, Nat.reduceEqDiff, Nat.reduceAdd, Nat.reduceMul, Nat.reduceSub, Nat.reduceDiv, Nat.reduceLT, Nat.reduceLeDiff, Nat.reduceBEq, ne_eq, not_true_eq_false, not_false_eq_true, reduceCtorEq, if_true, if_false, eq_self, Nat.add_zero, Nat.zero_add, lit, lit_nn, I_nat, I_add, I_mul, I_sub, I_div, inb_t, I_ne, I_nn, nn_I, nn_lt, nn_le, lt_nn, le_nn, I_t, I_f, I_lt_t, I_lt_f, isb_0, isb_1, vz_0, vz_1, nn_nat])
    5 0 (c0, 30) 1000 (by omega) (by omega) ⟨f0, h0, Or.inl ⟨rfl, fun x ⟨w1, w2⟩ => by have := w1.2.1; omega⟩⟩
  have hb1 : Bs V s (Ug V s) p.2 := u3.same fun x => ⟨fun w => ⟨w, by have := w.2.1; omega⟩, fun w => w.1⟩
  have hr : rt V s p.2 < 6 ∧ p.1 1 s = I (rt V s p.2) := by
    rcases u2 with ⟨e, g1, -⟩ | ⟨e, -, tb, -, g1, -⟩
    · unfold rt; rw [if_pos e]; exact ⟨hs, g1⟩
    · unfold rt; rw [if_neg (by omega)]; exact ⟨(hB.1 _ e tb).1, g1⟩
  obtain ⟨hr6, er⟩ := hr
  obtain ⟨q, ⟨v1, v2, v3⟩, hl2⟩ := loop_up (σ := St × Nat) (step := fun k a => fX3_takeBest_S78 k cw (I s) (I (s * 5)) (I (rt V s p.2)) (a.1) (a.2)) (fun t p => (p.1, I (s * 5 + t))) 5 (fun t q => Frt s ct q.1 ∧ HeldC V s q.2 (q.1 1) (q.1 2) (q.1 3) (q.1 4) ∧ Bs V s (fun x => Ug V s x ∨ (Zg V s p.2 x ∧ x < s * 5 + t)) q.2) (fun q => some q.1)
    (by
      intro t q ht ⟨u1, u2, u3⟩
      obtain ⟨g1, g2⟩ := hG (s * 5 + t) (by omega)
      have hk5 : (s * 5 + t) / 5 = s := by omega
      have skip : ¬ (V 7 (s * 5 + t) = 1 ∧ Zg V s p.2 (s * 5 + t)) → Bs V s (fun x => Ug V s x ∨ (Zg V s p.2 x ∧ x < s * 5 + (t + 1))) q.2 := by
        intro z
        refine u3.same fun x => ?_
        constructor
        · rintro (w | ⟨w1, w2⟩)
          · exact Or.inl w
          · by_cases e : x = s * 5 + t
            · subst e
              by_cases z1 : V 7 (s * 5 + t) = 1
              · exact absurd ⟨z1, w1⟩ z
              · exact Or.inl ⟨w1.1, w1.2.1, w1.2.2.2.1, w1.2.2.1, z1⟩
            · exact Or.inr ⟨w1, by omega⟩
        · rintro (w | ⟨w1, w2⟩)
          · exact Or.inl w
          · exact Or.inr ⟨w1, by omega⟩
      by_cases z : V 7 (s * 5 + t) = 1
      · by_cases tk : V 5 (s * 5 + t) = 0
        · refine ⟨q, ⟨u1, u2, skip fun w => w.2.2.2.2.1 tk⟩, fun rec => ?_⟩
          have e := ((u1.tc hT) (s * 5 + t) (by omega)).1 tk
          simp (disch := omega) only [fX3_takeBest_S78, ck1, bd1, bx1, bx2, aS_at, iS_at, upd_at, ↓reduceIte, Nat.reduceEqDiff, Nat.reduceAdd, Nat.reduceMul, Nat.reduceSub, Nat.reduceDiv, Nat.reduceLT, Nat.reduceLeDiff, Nat.reduceBEq, ne_eq, not_true_eq_false, not_false_eq_true, reduceCtorEq, if_true, if_false, eq_self, Nat.add_zero, Nat.zero_add, lit, lit_nn, I_nat, I_add, I_mul, I_sub, I_div, inb_t, I_ne, I_nn, nn_I, nn_lt, nn_le, lt_nn, le_nn, I_t, I_f, I_lt_t, I_lt_f, isb_0, isb_1, vz_0, vz_1, nn_nat, g2, z, e, Nat.add_assoc]
        · obtain ⟨e, -⟩ := ((u1.tc hT) (s * 5 + t) (by omega)).2 tk
          have a1 := (hB.1 (s * 5 + t) (by omega) tk).1
          by_cases zz : nk V (V 0 (s * 5 + t)) < nk V (rt V s p.2)
          · refine ⟨q, ⟨u1, u2, skip fun w => ?_⟩, fun rec => ?_⟩
            · rcases w.2.2.2.2.2 with y | y
              · exact y z
              · exact y zz
            · simp (disch := omega) only [fX3_takeBest_S78, name_c hN a1 hr6, ck1, bd1, bx1, bx2, aS_at, iS_at, upd_at, ↓reduceIte, Nat.reduceEqDiff, Nat.reduceAdd, Nat.reduceMul, Nat.reduceSub, Nat.reduceDiv, Nat.reduceLT, Nat.reduceLeDiff, Nat.reduceBEq, ne_eq, not_true_eq_false, not_false_eq_true, reduceCtorEq, if_true, if_false, eq_self, Nat.add_zero, Nat.zero_add, lit, lit_nn, I_nat, I_add, I_mul, I_sub, I_div, inb_t, I_ne, I_nn, nn_I, nn_lt, nn_le, lt_nn, le_nn, I_t, I_f, I_lt_t, I_lt_f, isb_0, isb_1, vz_0, vz_1, nn_nat, g2, z, e, zz, I01, Nat.add_assoc]
          · obtain ⟨c', o1, o2, o3⟩ := offer_eq hN (u1.tc hT) hB (show s * 5 + t < 30 by omega) hs hk5 u2
            refine ⟨(c', _), ⟨u1.trans o2, o3, u3.add (by omega) fun x => ?_⟩, fun rec => ?_⟩
            · constructor
              · rintro (w | ⟨w1, w2⟩)
                · exact Or.inl (Or.inl w)
                · by_cases y : x = s * 5 + t
                  · subst y
                    exact Or.inr ⟨rfl, tk, w1.2.2.1⟩
                  · exact Or.inl (Or.inr ⟨w1, by omega⟩)
              · rintro ((w | ⟨w1, w2⟩) | ⟨y, w1, w2⟩)
                · exact Or.inl w
                · exact Or.inr ⟨w1, by omega⟩
                · subst y
                  exact Or.inr ⟨⟨by omega, hk5, w2, tk, Or.inr zz⟩, by omega⟩
            · simp (disch := omega) only [fX3_takeBest_S78, name_c hN a1 hr6, ck1, bd1, bx1, bx2, aS_at, iS_at, upd_at, ↓reduceIte, Nat.reduceEqDiff, Nat.reduceAdd, Nat.reduceMul, Nat.reduceSub, Nat.reduceDiv, Nat.reduceLT, Nat.reduceLeDiff, Nat.reduceBEq, ne_eq, not_true_eq_false, not_false_eq_true, reduceCtorEq, if_true, if_false, eq_self, Nat.add_zero, Nat.zero_add, lit, lit_nn, I_nat, I_add, I_mul, I_sub, I_div, inb_t, I_ne, I_nn, nn_I, nn_lt, nn_le, lt_nn, le_nn, I_t, I_f, I_lt_t, I_lt_f, isb_0, isb_1, vz_0, vz_1, nn_nat, g2, z, e, zz, o1, Nat.add_assoc]
      · refine ⟨q, ⟨u1, u2, skip fun w => z w.1⟩, fun rec => ?_⟩
        simp (disch := omega) only [fX3_takeBest_S78, ck1, bd1, bx1, bx2, aS_at, iS_at, upd_at, ↓reduceIte, Nat.reduceEqDiff, Nat.reduceAdd, Nat.reduceMul, Nat.reduceSub, Nat.reduceDiv, Nat.reduceLT, Nat.reduceLeDiff, Nat.reduceBEq, ne_eq, not_true_eq_false, not_false_eq_true, reduceCtorEq, if_true, if_false, eq_self, Nat.add_zero, Nat.zero_add, lit, lit_nn, I_nat, I_add, I_mul, I_sub, I_div, inb_t, I_ne, I_nn, nn_I, nn_lt, nn_le, lt_nn, le_nn, I_t, I_f, I_lt_t, I_lt_f, isb_0, isb_1, vz_0, vz_1, nn_nat, g2, I_inj, z, Nat.add_assoc])
    (by
      intro q _ rec
      simp (disch := omega) only [fX3_takeBest_S78, ck1, bd1, bx1, bx2, aS_at, iS_at, upd_at, ↓reduceIte, Nat.reduceEqDiff, Nat.reduceAdd, Nat.reduceMul, Nat.reduceSub, Nat.reduceDiv, Nat.reduceLT, Nat.reduceLeDiff, Nat.reduceBEq, ne_eq, not_true_eq_false, not_false_eq_true, reduceCtorEq, if_true, if_false, eq_self, Nat.add_zero, Nat.zero_add, lit, lit_nn, I_nat, I_add, I_mul, I_sub, I_div, inb_t, I_ne, I_nn, nn_I, nn_lt, nn_le, lt_nn, le_nn, I_t, I_f, I_lt_t, I_lt_f, isb_0, isb_1, vz_0, vz_1, nn_nat])
    5 0 p 1000 (by omega) (by omega) ⟨u1, u2, hb1.same fun x => ⟨fun w => w.elim id (fun w => by have := w.1.2.1; have := w.2; omega), Or.inl⟩⟩
  refine ⟨p.2, q.2, q.1, ?_, v1, v2, hb1, v3.same fun x => ?_⟩
  · rw [← hl2]
    have e2 : fX3_takeBest_J68 p.1 cw (I s) (I (s * 5)) = fX3_takeBest_L78 cw (I s) (I (s * 5)) (I (rt V s p.2)) p.1 (I (s * 5)) := by
      simp (disch := omega) only [fX3_takeBest_J68, ck1, bd1, bx1, bx2, aS_at, iS_at, upd_at, ↓reduceIte, Nat.reduceEqDiff, Nat.reduceAdd, Nat.reduceMul, Nat.reduceSub, Nat.reduceDiv, Nat.reduceLT, Nat.reduceLeDiff, Nat.reduceBEq, ne_eq, not_true_eq_false, not_false_eq_true, reduceCtorEq, if_true, if_false, eq_self, Nat.add_zero, Nat.zero_add, lit, lit_nn, I_nat, I_add, I_mul, I_sub, I_div, inb_t, I_ne, I_nn, nn_I, nn_lt, nn_le, lt_nn, le_nn, I_t, I_f, I_lt_t, I_lt_f, isb_0, isb_1, vz_0, vz_1, nn_nat, er]
    refine Eq.trans ?_ (e2.symm.trans ?_ |>.symm.symm)
    · rw [e2.symm, ← hl, hc0]
      simp (disch := omega) only [fX3_takeBest, fX5_spotOf, fX3_takeBest_L36, ck1, bd1, bx1, bx2, aS_at, iS_at, upd_at, ↓reduceIte, Nat.reduceEqDiff, Nat.reduceAdd, Nat.reduceMul, Nat.reduceSub, Nat.reduceDiv, Nat.reduceLT, Nat.reduceLeDiff, Nat.reduceBEq, ne_eq, not_true_eq_false, not_false_eq_true, reduceCtorEq, if_true, if_false, eq_self, Nat.add_zero, Nat.zero_add, lit, lit_nn, I_nat, I_add, I_mul, I_sub, I_div, inb_t, I_ne, I_nn, nn_I, nn_lt, nn_le, lt_nn, le_nn, I_t, I_f, I_lt_t, I_lt_f, isb_0, isb_1, vz_0, vz_1, nn_nat]
    · exact e2
  · constructor
    · intro w
      exact Or.inr ⟨w, by have := w.2.1; omega⟩
    · rintro (w | w)
      · exact ⟨w.1, w.2.1, w.2.2.2.1, w.2.2.1, Or.inl w.2.2.2.2⟩
      · exact w.1

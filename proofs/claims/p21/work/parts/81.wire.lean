/-! ===== the law puts a wire ===== -/
theorem z00 : I 0 = (0 : Int32) := rfl
theorem z10 : ¬ I 1 = (0 : Int32) := by decide
theorem spotN {k : Nat} (hk : k < 30) : fX5_spotOf (I (k / 5)) (I (k % 5)) = some (I k) := by
  simp (disch := omega) only [fX5_spotOf, ck1, bd1, bx1, bx2, aS_at, iS_at, upd_at, ↓reduceIte, Nat.reduceEqDiff, Nat.reduceAdd, Nat.reduceMul, Nat.reduceSub, Nat.reduceDiv, Nat.reduceLT, Nat.reduceLeDiff, Nat.reduceBEq, ne_eq, not_true_eq_false, not_false_eq_true, reduceCtorEq, if_true, if_false, eq_self, Nat.add_zero, Nat.zero_add, lit, lit_nn, I_nat, I_add, I_mul, I_sub, I_div, inb_t, I_ne, I_nn, nn_I, nn_lt, nn_le, lt_nn, le_nn, I_t, I_f, I_lt_t, I_lt_f, isb_0, isb_1, vz_0, vz_1, nn_nat, divN]
theorem does_wire_ok {cs cw ct cl cb cp cw' : St} {x2 x3 x4 x5 x6 r : Int32} (h : fX5_wire cw x2 x3 x4 x5 x6 = some (.inl (r, cw'))) : fL_does cs cw ct cl cb cp 0 x2 x3 x4 x5 x6 = some (r, cs, cw', ct, cl, cb, cp) := by
  unfold fL_does
  rw [if_pos rfl, h]
  rfl
theorem does_wire_t {cs cw ct cl cb cp : St} {x2 x3 x4 x5 x6 : Int32} {k : Nat} (hk : k = 1 ∨ k = 2 ∨ k = 3) (h : fX5_wire cw x2 x3 x4 x5 x6 = some (.inr k)) : fL_does cs cw ct cl cb cp 0 x2 x3 x4 x5 x6 = some (xc k, cs, cw, ct, cl, cb, cp) := by
  unfold fL_does
  rw [if_pos rfl, h]
  exact hxd hk (fun v => (v, cs, cw, ct, cl, cb, cp))
theorem wire_eval (cw : St) {p o c : Nat} (hp : p < 30) (ho : o < 30) (h1 : 1 ≤ c) (h2 : c ≤ 100) :
    (p / 5 = o / 5 → fX5_wire cw (I (p / 5)) (I (p % 5)) (I (o / 5)) (I (o % 5)) (I c) = some (.inr 2)) ∧
    (p / 5 ≠ o / 5 → (cw 0 p ≠ nn ∨ cw 2 p ≠ nn) ∨ (cw 0 o ≠ nn ∨ cw 2 o ≠ nn) → fX5_wire cw (I (p / 5)) (I (p % 5)) (I (o / 5)) (I (o % 5)) (I c) = some (.inr 3)) ∧
    (p / 5 ≠ o / 5 → cw 0 p = nn → cw 2 p = nn → cw 0 o = nn → cw 2 o = nn → fX5_wire cw (I (p / 5)) (I (p % 5)) (I (o / 5)) (I (o % 5)) (I c) = some (.inl (cw 6 0 + 1, iS (aS (aS (aS (aS cw 0 (I p) (I o)) 0 (I o) (I p)) 1 (I p) (I c)) 1 (I o) (I c)) 6 (cw 6 0 + 1)))) := by
  have n1 := needPort_t (a := p / 5) (b := p % 5) (by omega) (by omega)
  have n2 := needPort_t (a := o / 5) (b := o % 5) (by omega) (by omega)
  have n3 : fX5_needWithin (I c) (I 1) (I 100) = some (.inl ()) := needWithin_t (by omega) (inD_I h1 (by omega))
  refine ⟨fun e => ?_, fun e f => ?_, fun e f1 f2 f3 f4 => ?_⟩
  · unfold fX5_wire
    rw [n1, n2, bx1, bx1, e, if_pos rfl]
  · unfold fX5_wire
    rw [n1, n2, bx1, bx1, if_neg (by rw [I_inj (by omega) (by omega)]; exact e)]
    rw [show (1 : Int32) = I 1 from rfl, show (100 : Int32) = I 100 from rfl, n3, bx1, spotN hp, spotN ho, bd1, bd1]
    by_cases w : cw 0 p ≠ nn ∨ cw 2 p ≠ nn
    · rw [bare_f cw hp w, bd1, if_pos z00]
    · have w1 : cw 0 p = nn := Classical.byContradiction fun z => w (Or.inl z)
      have w2 : cw 2 p = nn := Classical.byContradiction fun z => w (Or.inr z)
      rw [bare_t cw hp w1 w2, bd1, if_neg z10]
      rcases f with f | f
      · exact absurd f w
      · rw [bare_f cw ho f, bd1, if_pos z00]
  · unfold fX5_wire
    rw [n1, n2, bx1, bx1, if_neg (by rw [I_inj (by omega) (by omega)]; exact e)]
    rw [show (1 : Int32) = I 1 from rfl, show (100 : Int32) = I 100 from rfl, n3, bx1, spotN hp, spotN ho, bd1, bd1]
    rw [bare_t cw hp f1 f2, bd1, if_neg z10, bare_t cw ho f3 f4, bd1, if_neg z10]
    simp (disch := omega) only [fX4_putWire, ck1, bd1, bx1, bx2, aS_at, iS_at, upd_at, ↓reduceIte, Nat.reduceEqDiff, Nat.reduceAdd, Nat.reduceMul, Nat.reduceSub, Nat.reduceDiv, Nat.reduceLT, Nat.reduceLeDiff, Nat.reduceBEq, ne_eq, not_true_eq_false, not_false_eq_true, reduceCtorEq, if_true, if_false, eq_self, Nat.add_zero, Nat.zero_add, lit, lit_nn, I_nat, I_add, I_mul, I_sub, I_div, inb_t, I_ne, I_nn, nn_I, nn_lt, nn_le, lt_nn, le_nn, I_t, I_f, I_lt_t, I_lt_f, isb_0, isb_1, vz_0, vz_1, nn_nat]
theorem mod_I {a m : Nat} (ha : a < 2147483648) (hm : m < 2147483648) : I a - I a / I m * I m = I (a % m) := by
  rw [I_div ha hm, I_mul, I_sub (by rw [Nat.mul_comm]; exact Nat.mul_div_le a m), modN]
theorem lp_wire_go {N n : Nat} {cs cw ct cl cb cp cg : St} (h : LInv N n cs cw ct cl cb cg) {p o c : Nat} (hp : p < 30) (ho : o < 30) (h1 : 1 ≤ c) (h2 : c ≤ 100) :
    ∃ cs' cw' ct' cl' cb' cp' cg', fL_isPort_J47 cs cw ct cl cb cp cg (I p) (I o) (I c) (I (if p / 5 = o / 5 then 0 else 1)) = some (I 1, cs', cw', ct', cl', cb', cp', cg') ∧ LInv N (n + 1) cs' cw' ct' cl' cb' cg' := by
  obtain ⟨e1, e2, e3⟩ := wire_eval cw hp ho h1 h2
  have hm : LInv N (n + 1) cs cw ct cl cb cg := h.mono (by omega)
  have d5 : ∀ k : Nat, k < 30 → I k / 5 = I (k / 5) := fun k hk => div5 (by omega)
  have m5 : ∀ k : Nat, k < 30 → I k - I k / 5 * 5 = I (k % 5) := fun k hk => mod5 (by omega)
  by_cases e : p / 5 = o / 5
  · rw [if_pos e]
    refine ⟨cs, cw, ct, cl, cb, cp, cg, ?_, hm⟩
    unfold fL_isPort_J47 fL_isPort_J72 fL_isPort_J73 fL_isPort_J112
    rw [if_pos z00, if_pos rfl, m5 p hp, m5 o ho, d5 p hp, d5 o ho, does_wire_t (Or.inr (Or.inl rfl)) (e1 e), bd1, if_pos z00]
    rfl
  · rw [if_neg e]
    have taken : (cw 0 p ≠ nn ∨ cw 2 p ≠ nn) ∨ (cw 0 o ≠ nn ∨ cw 2 o ≠ nn) → fL_isPort_J72 cs cw ct cl cb cp cg (I p) (I o) (I c) (I 1) = some (I 1, cs, cw, ct, cl, cb, cp, cg) := by
      intro w
      unfold fL_isPort_J72 fL_isPort_J73 fL_isPort_J112
      rw [if_pos rfl, m5 p hp, m5 o ho, d5 p hp, d5 o ho, does_wire_t (Or.inr (Or.inr rfl)) (e2 e w), bd1, if_neg z10, if_pos rfl]
      rfl
    unfold fL_isPort_J47
    rw [if_neg z10, inb_t hp (by omega), ck1, I_nat (by omega), inb_t ho (by omega), ck1, I_nat (by omega)]
    have pos : ∀ k, k < 30 → (0 ≤ cg 0 k ∧ (cw 0 k ≠ nn ∨ cw 2 k ≠ nn)) ∨ (¬ 0 ≤ cg 0 k ∧ cw 0 k = nn ∧ cw 2 k = nn) := by
      intro k hk
      rw [zeroI]
      rcases h.at hk with ⟨z1, z2, z3⟩ | ⟨j, c', z1, z2, z3, -⟩ | ⟨a, z1, z2, z3, z4⟩
      · right; rw [z1, le_nn (by omega)]; exact ⟨fun z => z, z2, z3⟩
      · left; rw [z2, I_lt_t (by omega) (by omega), z3, ne_eq, I_nn (by omega)]; exact ⟨trivial, Or.inl fun z => z⟩
      · left; rw [z2, I_lt_t (by omega) (by omega), z3, ne_eq (I a), I_nn (by omega)]; exact ⟨trivial, Or.inr fun z => z⟩
    rcases pos p hp with ⟨a1, a2⟩ | ⟨a1, a2, a3⟩
    · rw [if_pos a1]
      exact ⟨cs, cw, ct, cl, cb, cp, cg, taken (Or.inl a2), hm⟩
    · rw [if_neg a1]
      rcases pos o ho with ⟨b1, b2⟩ | ⟨b1, b2, b3⟩
      · rw [if_pos b1]
        exact ⟨cs, cw, ct, cl, cb, cp, cg, taken (Or.inr b2), hm⟩
      · rw [if_neg b1]
        have ew := e3 e a2 a3 b2 b3
        obtain ⟨⟨mm, hr⟩, ⟨c1, c2, c3, c4⟩, lw, lh, lk, g1, g2, g3, g4, g5, g6⟩ := hm
        have hpo : p ≠ o := fun z => e (by rw [z])
        have rel' : ∃ mm', Rel N cs (iS (aS (aS (aS (aS cw 0 (I p) (I o)) 0 (I o) (I p)) 1 (I p) (I c)) 1 (I o) (I c)) 6 (cw 6 0 + 1)) ct cl cb mm' := by
          rcases sim_wire hr (I (p / 5)) (I (p % 5)) (I (o / 5)) (I (o % 5)) (I c) with ⟨k, r, m', -, z, -⟩ | ⟨r, cw', m', z, -, -, z2⟩
          · rw [ew] at z; cases z
          · rw [ew] at z; cases z; exact ⟨m', z2⟩
        refine ⟨cs, _, ct, cl, cb, cp, aS (aS (aS (aS (aS cg 0 (I p) (I o)) 0 (I o) (I p)) 1 (I p) (I c)) 1 (I o) (I c)) 4 (I 0) (cg 4 0 + 1), ?_, rel', ⟨fun k hk => ?_, fun j hj q hq => ?_, c3, c4⟩, fun k hk => ?_, fun g hg => ?_, fun j hj => ?_, ?_, ?_, ?_, ?_, ?_, ?_⟩
        · unfold fL_isPort_J73 fL_isPort_J112
          rw [m5 p hp, m5 o ho, d5 p hp, d5 o ho, does_wire_ok ew]
          simp (disch := omega) only [ck1, bd1, bx1, bx2, aS_at, iS_at, upd_at, ↓reduceIte, Nat.reduceEqDiff, Nat.reduceAdd, Nat.reduceMul, Nat.reduceSub, Nat.reduceDiv, Nat.reduceLT, Nat.reduceLeDiff, Nat.reduceBEq, ne_eq, not_true_eq_false, not_false_eq_true, reduceCtorEq, if_true, if_false, eq_self, Nat.add_zero, Nat.zero_add, lit, lit_nn, I_nat, I_add, I_mul, I_sub, I_div, inb_t, I_ne, I_nn, nn_I, nn_lt, nn_le, lt_nn, le_nn, I_t, I_f, I_lt_t, I_lt_f, isb_0, isb_1, vz_0, vz_1, nn_nat, fL_isPort_J161, g1]
        · obtain ⟨x1, x2, x3, x4, x5⟩ := c1 k hk
          unfold XP
          simp (disch := omega) only [ck1, bd1, bx1, bx2, aS_at, iS_at, upd_at, ↓reduceIte, Nat.reduceEqDiff, Nat.reduceAdd, Nat.reduceMul, Nat.reduceSub, Nat.reduceDiv, Nat.reduceLT, Nat.reduceLeDiff, Nat.reduceBEq, ne_eq, not_true_eq_false, not_false_eq_true, reduceCtorEq, if_true, if_false, eq_self, Nat.add_zero, Nat.zero_add, lit, lit_nn, I_nat, I_add, I_mul, I_sub, I_div, inb_t, I_ne, I_nn, nn_I, nn_lt, nn_le, lt_nn, le_nn, I_t, I_f, I_lt_t, I_lt_f, isb_0, isb_1, vz_0, vz_1, nn_nat]
          refine ⟨x1, x2, fun z1 z2 => ?_, fun z => ⟨(x4 z).1, ?_⟩, x5⟩
          · have := (x4 z2).2
            by_cases w : k = o
            · subst w
              rcases this with t | t
              · exact absurd b2 t
              · exact absurd b3 t
            · by_cases v : k = p
              · subst v
                rcases this with t | t
                · exact absurd a2 t
                · exact absurd a3 t
              · rw [if_neg w, if_neg v] at z1
                exact x3 z1 z2
          · by_cases w : k = o
            · left; rw [if_pos w, I_nn (by omega)]; exact fun z => z
            · by_cases v : k = p
              · left; rw [if_neg w, if_pos v, I_nn (by omega)]; exact fun z => z
              · rw [if_neg w, if_neg v]; exact (x4 z).2
        · rcases c2 j hj q hq with z | ⟨u, hu, u1, u2, u3⟩
          · exact Or.inl z
          · refine Or.inr ⟨u, hu, u1, ?_, u3⟩
            simp (disch := omega) only [ck1, bd1, bx1, bx2, aS_at, iS_at, upd_at, ↓reduceIte, Nat.reduceEqDiff, Nat.reduceAdd, Nat.reduceMul, Nat.reduceSub, Nat.reduceDiv, Nat.reduceLT, Nat.reduceLeDiff, Nat.reduceBEq, ne_eq, not_true_eq_false, not_false_eq_true, reduceCtorEq, if_true, if_false, eq_self, Nat.add_zero, Nat.zero_add, lit, lit_nn, I_nat, I_add, I_mul, I_sub, I_div, inb_t, I_ne, I_nn, nn_I, nn_lt, nn_le, lt_nn, le_nn, I_t, I_f, I_lt_t, I_lt_f, isb_0, isb_1, vz_0, vz_1, nn_nat]
            by_cases w : 5 * j + u = o
            · left; rw [if_pos w, I_nn (by omega)]; exact fun z => z
            · by_cases v : 5 * j + u = p
              · left; rw [if_neg w, if_pos v, I_nn (by omega)]; exact fun z => z
              · rw [if_neg w, if_neg v]; exact u2
        · simp (disch := omega) only [ck1, bd1, bx1, bx2, aS_at, iS_at, upd_at, ↓reduceIte, Nat.reduceEqDiff, Nat.reduceAdd, Nat.reduceMul, Nat.reduceSub, Nat.reduceDiv, Nat.reduceLT, Nat.reduceLeDiff, Nat.reduceBEq, ne_eq, not_true_eq_false, not_false_eq_true, reduceCtorEq, if_true, if_false, eq_self, Nat.add_zero, Nat.zero_add, lit, lit_nn, I_nat, I_add, I_mul, I_sub, I_div, inb_t, I_ne, I_nn, nn_I, nn_lt, nn_le, lt_nn, le_nn, I_t, I_f, I_lt_t, I_lt_f, isb_0, isb_1, vz_0, vz_1, nn_nat]
          by_cases w : k = o
          · left; rw [if_pos w, if_pos w, if_pos w, if_pos w, I_nn (by omega)]; exact ⟨fun z => z, rfl, rfl⟩
          · by_cases v : k = p
            · left; rw [if_neg w, if_neg w, if_neg w, if_neg w, if_pos v, if_pos v, if_pos v, if_pos v, I_nn (by omega)]; exact ⟨fun z => z, rfl, rfl⟩
            · rw [if_neg w, if_neg w, if_neg w, if_neg w, if_neg v, if_neg v, if_neg v, if_neg v]; exact lw k hk
        · simp (disch := omega) only [ck1, bd1, bx1, bx2, aS_at, iS_at, upd_at, ↓reduceIte, Nat.reduceEqDiff, Nat.reduceAdd, Nat.reduceMul, Nat.reduceSub, Nat.reduceDiv, Nat.reduceLT, Nat.reduceLeDiff, Nat.reduceBEq, ne_eq, not_true_eq_false, not_false_eq_true, reduceCtorEq, if_true, if_false, eq_self, Nat.add_zero, Nat.zero_add, lit, lit_nn, I_nat, I_add, I_mul, I_sub, I_div, inb_t, I_ne, I_nn, nn_I, nn_lt, nn_le, lt_nn, le_nn, I_t, I_f, I_lt_t, I_lt_f, isb_0, isb_1, vz_0, vz_1, nn_nat]; exact lh g hg
        · simp (disch := omega) only [ck1, bd1, bx1, bx2, aS_at, iS_at, upd_at, ↓reduceIte, Nat.reduceEqDiff, Nat.reduceAdd, Nat.reduceMul, Nat.reduceSub, Nat.reduceDiv, Nat.reduceLT, Nat.reduceLeDiff, Nat.reduceBEq, ne_eq, not_true_eq_false, not_false_eq_true, reduceCtorEq, if_true, if_false, eq_self, Nat.add_zero, Nat.zero_add, lit, lit_nn, I_nat, I_add, I_mul, I_sub, I_div, inb_t, I_ne, I_nn, nn_I, nn_lt, nn_le, lt_nn, le_nn, I_t, I_f, I_lt_t, I_lt_f, isb_0, isb_1, vz_0, vz_1, nn_nat]; exact lk j hj
        · simp (disch := omega) only [ck1, bd1, bx1, bx2, aS_at, iS_at, upd_at, ↓reduceIte, Nat.reduceEqDiff, Nat.reduceAdd, Nat.reduceMul, Nat.reduceSub, Nat.reduceDiv, Nat.reduceLT, Nat.reduceLeDiff, Nat.reduceBEq, ne_eq, not_true_eq_false, not_false_eq_true, reduceCtorEq, if_true, if_false, eq_self, Nat.add_zero, Nat.zero_add, lit, lit_nn, I_nat, I_add, I_mul, I_sub, I_div, inb_t, I_ne, I_nn, nn_I, nn_lt, nn_le, lt_nn, le_nn, I_t, I_f, I_lt_t, I_lt_f, isb_0, isb_1, vz_0, vz_1, nn_nat, g1]
        · simp (disch := omega) only [ck1, bd1, bx1, bx2, aS_at, iS_at, upd_at, ↓reduceIte, Nat.reduceEqDiff, Nat.reduceAdd, Nat.reduceMul, Nat.reduceSub, Nat.reduceDiv, Nat.reduceLT, Nat.reduceLeDiff, Nat.reduceBEq, ne_eq, not_true_eq_false, not_false_eq_true, reduceCtorEq, if_true, if_false, eq_self, Nat.add_zero, Nat.zero_add, lit, lit_nn, I_nat, I_add, I_mul, I_sub, I_div, inb_t, I_ne, I_nn, nn_I, nn_lt, nn_le, lt_nn, le_nn, I_t, I_f, I_lt_t, I_lt_f, isb_0, isb_1, vz_0, vz_1, nn_nat, g2]
        · simp (disch := omega) only [ck1, bd1, bx1, bx2, aS_at, iS_at, upd_at, ↓reduceIte, Nat.reduceEqDiff, Nat.reduceAdd, Nat.reduceMul, Nat.reduceSub, Nat.reduceDiv, Nat.reduceLT, Nat.reduceLeDiff, Nat.reduceBEq, ne_eq, not_true_eq_false, not_false_eq_true, reduceCtorEq, if_true, if_false, eq_self, Nat.add_zero, Nat.zero_add, lit, lit_nn, I_nat, I_add, I_mul, I_sub, I_div, inb_t, I_ne, I_nn, nn_I, nn_lt, nn_le, lt_nn, le_nn, I_t, I_f, I_lt_t, I_lt_f, isb_0, isb_1, vz_0, vz_1, nn_nat, g3]
        · simp (disch := omega) only [ck1, bd1, bx1, bx2, aS_at, iS_at, upd_at, ↓reduceIte, Nat.reduceEqDiff, Nat.reduceAdd, Nat.reduceMul, Nat.reduceSub, Nat.reduceDiv, Nat.reduceLT, Nat.reduceLeDiff, Nat.reduceBEq, ne_eq, not_true_eq_false, not_false_eq_true, reduceCtorEq, if_true, if_false, eq_self, Nat.add_zero, Nat.zero_add, lit, lit_nn, I_nat, I_add, I_mul, I_sub, I_div, inb_t, I_ne, I_nn, nn_I, nn_lt, nn_le, lt_nn, le_nn, I_t, I_f, I_lt_t, I_lt_f, isb_0, isb_1, vz_0, vz_1, nn_nat, g4]
        · simp (disch := omega) only [ck1, bd1, bx1, bx2, aS_at, iS_at, upd_at, ↓reduceIte, Nat.reduceEqDiff, Nat.reduceAdd, Nat.reduceMul, Nat.reduceSub, Nat.reduceDiv, Nat.reduceLT, Nat.reduceLeDiff, Nat.reduceBEq, ne_eq, not_true_eq_false, not_false_eq_true, reduceCtorEq, if_true, if_false, eq_self, Nat.add_zero, Nat.zero_add, lit, lit_nn, I_nat, I_add, I_mul, I_sub, I_div, inb_t, I_ne, I_nn, nn_I, nn_lt, nn_le, lt_nn, le_nn, I_t, I_f, I_lt_t, I_lt_f, isb_0, isb_1, vz_0, vz_1, nn_nat, g5]
        · simp (disch := omega) only [ck1, bd1, bx1, bx2, aS_at, iS_at, upd_at, ↓reduceIte, Nat.reduceEqDiff, Nat.reduceAdd, Nat.reduceMul, Nat.reduceSub, Nat.reduceDiv, Nat.reduceLT, Nat.reduceLeDiff, Nat.reduceBEq, ne_eq, not_true_eq_false, not_false_eq_true, reduceCtorEq, if_true, if_false, eq_self, Nat.add_zero, Nat.zero_add, lit, lit_nn, I_nat, I_add, I_mul, I_sub, I_div, inb_t, I_ne, I_nn, nn_I, nn_lt, nn_le, lt_nn, le_nn, I_t, I_f, I_lt_t, I_lt_f, isb_0, isb_1, vz_0, vz_1, nn_nat]; exact g6

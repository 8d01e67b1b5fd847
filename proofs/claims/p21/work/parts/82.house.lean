/-! ===== the law puts a house ===== -/
theorem does_house_ok {cs cw ct cl cb cp cw' ct' : St} {x2 x3 x4 x5 x6 r : Int32} (h : fX5_house cw ct x2 x3 x4 = some (.inl (r, cw', ct'))) : fL_does cs cw ct cl cb cp 2 x2 x3 x4 x5 x6 = some (r, cs, cw', ct', cl, cb, cp) := by
  unfold fL_does
  rw [if_neg (by decide), if_neg (by decide), if_pos rfl, h]
  rfl
theorem does_house_t {cs cw ct cl cb cp : St} {x2 x3 x4 x5 x6 : Int32} {k : Nat} (hk : k = 1 ∨ k = 2 ∨ k = 3) (h : fX5_house cw ct x2 x3 x4 = some (.inr k)) : fL_does cs cw ct cl cb cp 2 x2 x3 x4 x5 x6 = some (xc k, cs, cw, ct, cl, cb, cp) := by
  unfold fL_does
  rw [if_neg (by decide), if_neg (by decide), if_pos rfl, h]
  exact hxd hk (fun v => (v, cs, cw, ct, cl, cb, cp))
theorem house_eval (cw ct : St) {p g : Nat} (hp : p < 30) (hg : g < 10) :
    ((cw 0 p ≠ nn ∨ cw 2 p ≠ nn) ∨ cw 4 g ≠ nn → fX5_house cw ct (I (p / 5)) (I (p % 5)) (I g) = some (.inr 3)) ∧
    (cw 0 p = nn → cw 2 p = nn → cw 4 g = nn → fX5_house cw ct (I (p / 5)) (I (p % 5)) (I g) = some (.inl (cw 7 0 + 1, iS (aS (aS cw 2 (I p) (I g)) 4 (I g) (I p)) 7 (cw 7 0 + 1), aS ct 6 (I p) (if ct 5 p = I 0 then I 1 else I 0)))) := by
  have n1 := needPort_t (a := p / 5) (b := p % 5) (by omega) (by omega)
  refine ⟨fun f => ?_, fun f1 f2 f3 => ?_⟩
  · unfold fX5_house
    rw [n1, needHouse_t hg, bx1, bx1, spotN hp, bd1]
    by_cases w : cw 0 p ≠ nn ∨ cw 2 p ≠ nn
    · rw [bare_f cw hp w, bd1, if_pos z00]
    · have w1 : cw 0 p = nn := Classical.byContradiction fun z => w (Or.inl z)
      have w2 : cw 2 p = nn := Classical.byContradiction fun z => w (Or.inr z)
      rw [bare_t cw hp w1 w2, bd1, if_neg z10, inb_t hg (by omega), ck1, I_nat (by omega)]
      rcases f with f | f
      · exact absurd f w
      · rw [neg1, if_neg f]
  · unfold fX5_house
    rw [n1, needHouse_t hg, bx1, bx1, spotN hp, bd1, bare_t cw hp f1 f2, bd1, if_neg z10, inb_t hg (by omega), ck1, I_nat (by omega), neg1, if_pos f3]
    have e : fX4_putHouse cw (I p) (I g) = some (iS (aS (aS cw 2 (I p) (I g)) 4 (I g) (I p)) 7 (cw 7 0 + 1)) := by
      simp (disch := omega) only [fX4_putHouse, ck1, bd1, bx1, bx2, aS_at, iS_at, upd_at, ↓reduceIte, Nat.reduceEqDiff, Nat.reduceAdd, Nat.reduceMul, Nat.reduceSub, Nat.reduceDiv, Nat.reduceLT, Nat.reduceLeDiff, Nat.reduceBEq, ne_eq, not_true_eq_false, not_false_eq_true, reduceCtorEq, if_true, if_false, eq_self, Nat.add_zero, Nat.zero_add, lit, lit_nn, I_nat, I_add, I_mul, I_sub, I_div, inb_t, I_ne, I_nn, nn_I, nn_lt, nn_le, lt_nn, le_nn, I_t, I_f, I_lt_t, I_lt_f, isb_0, isb_1, vz_0, vz_1, nn_nat]
    rw [e, bd1, openFor _ _ hp, bd1]
    have e2 : iS (aS (aS cw 2 (I p) (I g)) 4 (I g) (I p)) 7 (cw 7 0 + 1) 2 p = I g := by
      simp (disch := omega) only [ck1, bd1, bx1, bx2, aS_at, iS_at, upd_at, ↓reduceIte, Nat.reduceEqDiff, Nat.reduceAdd, Nat.reduceMul, Nat.reduceSub, Nat.reduceDiv, Nat.reduceLT, Nat.reduceLeDiff, Nat.reduceBEq, ne_eq, not_true_eq_false, not_false_eq_true, reduceCtorEq, if_true, if_false, eq_self, Nat.add_zero, Nat.zero_add, lit, lit_nn, I_nat, I_add, I_mul, I_sub, I_div, inb_t, I_ne, I_nn, nn_I, nn_lt, nn_le, lt_nn, le_nn, I_t, I_f, I_lt_t, I_lt_f, isb_0, isb_1, vz_0, vz_1, nn_nat]
    rw [e2]
    by_cases w : ct 5 p = I 0
    · rw [if_pos w, if_pos ⟨w, by rw [ne_eq, I_nn (by omega)]; exact fun z => z⟩]
      rfl
    · rw [if_neg w, if_neg (fun z => w z.1)]
      rfl
theorem bare_law {N n : Nat} {cs cw ct cl cb cg : St} (h : LInv N n cs cw ct cl cb cg) {k : Nat} (hk : k < 30) : (0 ≤ cg 0 k ∧ (cw 0 k ≠ nn ∨ cw 2 k ≠ nn)) ∨ (¬ 0 ≤ cg 0 k ∧ cw 0 k = nn ∧ cw 2 k = nn) := by
  rw [zeroI]
  rcases h.at hk with ⟨z1, z2, z3⟩ | ⟨j, c', z1, z2, z3, -⟩ | ⟨a, z1, z2, z3, z4⟩
  · right; rw [z1, le_nn (by omega)]; exact ⟨fun z => z, z2, z3⟩
  · left; rw [z2, I_lt_t (by omega) (by omega), z3, ne_eq, I_nn (by omega)]; exact ⟨trivial, Or.inl fun z => z⟩
  · left; rw [z2, I_lt_t (by omega) (by omega), z3, ne_eq (I a), I_nn (by omega)]; exact ⟨trivial, Or.inr fun z => z⟩
theorem lp_house {N n : Nat} {cs cw ct cl cb cp cg : St} (h : LInv N n cs cw ct cl cb cg) {a b : Nat} (ha : a < 2147483648) (hb : b < 2147483648) :
    ∃ cs' cw' ct' cl' cb' cp' cg', fL_isPort cs cw ct cl cb cp cg 1 (I a) (I b) = some (I 1, cs', cw', ct', cl', cb', cp', cg') ∧ LInv N (n + 1) cs' cw' ct' cl' cb' cg' := by
  obtain ⟨p, ep⟩ : ∃ p, p = a % 30 := ⟨_, rfl⟩
  obtain ⟨g, eg⟩ : ∃ g, g = b % 10 := ⟨_, rfl⟩
  have hp : p < 30 := by omega
  have hg : g < 10 := by omega
  have e30 : I a - I a / 30 * 30 = I p := by rw [show (30 : Int32) = I 30 from rfl, mod_I ha (by omega), ep]
  have e10 : I b - I b / 10 * 10 = I g := by rw [show (10 : Int32) = I 10 from rfl, mod_I hb (by omega), eg]
  unfold fL_isPort
  rw [if_neg (by decide), if_pos rfl, e30, e10, inb_t hp (by omega), ck1, I_nat (by omega)]
  obtain ⟨e1, e2⟩ := house_eval cw ct hp hg
  have hm : LInv N (n + 1) cs cw ct cl cb cg := h.mono (by omega)
  have taken : (cw 0 p ≠ nn ∨ cw 2 p ≠ nn) ∨ cw 4 g ≠ nn → fL_isPort_J201 cs cw ct cl cb cp cg (I p) (I g) = some (I 1, cs, cw, ct, cl, cb, cp, cg) := by
    intro w
    unfold fL_isPort_J201 fL_isPort_J202 fL_isPort_J232
    rw [if_pos rfl, mod5 (by omega), div5 (by omega), does_house_t (Or.inr (Or.inr rfl)) (e1 w), bd1, if_pos rfl]
    rfl
  rcases bare_law h hp with ⟨a1, a2⟩ | ⟨a1, a2, a3⟩
  · rw [if_pos a1]
    exact ⟨cs, cw, ct, cl, cb, cp, cg, taken (Or.inl a2), hm⟩
  · rw [if_neg a1, inb_t hg (by omega), ck1, I_nat (by omega)]
    obtain ⟨⟨mm, hr⟩, ⟨c1, c2, c3, c4⟩, lw, lh, lk, g1, g2, g3, g4, g5, g6⟩ := hm
    rw [lh g hg]
    have hm : LInv N (n + 1) cs cw ct cl cb cg := ⟨⟨mm, hr⟩, ⟨c1, c2, c3, c4⟩, lw, lh, lk, g1, g2, g3, g4, g5, g6⟩
    rcases rel_sp hr hg with ⟨s1, s2⟩ | ⟨q, hq, s1, s2⟩
    · rw [s1, if_neg (show ¬ (0 : Int32) ≤ nn by decide)]
      have ew := e2 a2 a3 s1
      have rel' : ∃ mm', Rel N cs (iS (aS (aS cw 2 (I p) (I g)) 4 (I g) (I p)) 7 (cw 7 0 + 1)) (aS ct 6 (I p) (if ct 5 p = I 0 then I 1 else I 0)) cl cb mm' := by
        rcases sim_house hr (I (p / 5)) (I (p % 5)) (I g) with ⟨k, r, m', -, z, -⟩ | ⟨r, cw', ct', m', z, -, -, z2⟩
        · rw [ew] at z; cases z
        · rw [ew] at z; cases z; exact ⟨m', z2⟩
      refine ⟨cs, _, _, cl, cb, cp, aS (aS (aS cg 0 (I p) (100 + I g)) 2 (I g) (I p)) 4 (I 1) (cg 4 1 + 1), ?_, rel', ⟨fun k hk => ?_, fun j hj q hq => ?_, c3, c4⟩, fun k hk => ?_, fun g' hg' => ?_, fun j hj => ?_, ?_, ?_, ?_, ?_, ?_, ?_⟩
      · unfold fL_isPort_J202 fL_isPort_J232
        rw [mod5 (by omega), div5 (by omega), does_house_ok ew]
        simp (disch := omega) only [ck1, bd1, bx1, bx2, aS_at, iS_at, upd_at, ↓reduceIte, Nat.reduceEqDiff, Nat.reduceAdd, Nat.reduceMul, Nat.reduceSub, Nat.reduceDiv, Nat.reduceLT, Nat.reduceLeDiff, Nat.reduceBEq, ne_eq, not_true_eq_false, not_false_eq_true, reduceCtorEq, if_true, if_false, eq_self, Nat.add_zero, Nat.zero_add, lit, lit_nn, I_nat, I_add, I_mul, I_sub, I_div, inb_t, I_ne, I_nn, nn_I, nn_lt, nn_le, lt_nn, le_nn, I_t, I_f, I_lt_t, I_lt_f, isb_0, isb_1, vz_0, vz_1, nn_nat, fL_isPort_J264, g2]
      · obtain ⟨x1, x2, x3, x4, x5⟩ := c1 k hk
        unfold XP
        simp (disch := omega) only [ck1, bd1, bx1, bx2, aS_at, iS_at, upd_at, ↓reduceIte, Nat.reduceEqDiff, Nat.reduceAdd, Nat.reduceMul, Nat.reduceSub, Nat.reduceDiv, Nat.reduceLT, Nat.reduceLeDiff, Nat.reduceBEq, ne_eq, not_true_eq_false, not_false_eq_true, reduceCtorEq, if_true, if_false, eq_self, Nat.add_zero, Nat.zero_add, lit, lit_nn, I_nat, I_add, I_mul, I_sub, I_div, inb_t, I_ne, I_nn, nn_I, nn_lt, nn_le, lt_nn, le_nn, I_t, I_f, I_lt_t, I_lt_f, isb_0, isb_1, vz_0, vz_1, nn_nat]
        by_cases w : k = p
        · subst w
          rw [if_pos rfl, if_pos rfl]
          by_cases v : ct 5 k = I 0
          · rw [if_pos v]
            exact ⟨x1, fun _ _ => rfl, fun z => absurd a2 z, fun _ => ⟨v, Or.inr (by rw [I_nn (by omega)]; exact fun z => z)⟩, Or.inr rfl⟩
          · rw [if_neg v]
            refine ⟨x1, fun _ z => absurd z v, ?_⟩
            simp [a2, I10]
        · rw [if_neg w, if_neg w]
          exact ⟨x1, x2, x3, x4, x5⟩
      · rcases c2 j hj q hq with z | ⟨u, hu, u1, u2, u3⟩
        · exact Or.inl z
        · refine Or.inr ⟨u, hu, u1, ?_, ?_⟩
          · simp (disch := omega) only [ck1, bd1, bx1, bx2, aS_at, iS_at, upd_at, ↓reduceIte, Nat.reduceEqDiff, Nat.reduceAdd, Nat.reduceMul, Nat.reduceSub, Nat.reduceDiv, Nat.reduceLT, Nat.reduceLeDiff, Nat.reduceBEq, ne_eq, not_true_eq_false, not_false_eq_true, reduceCtorEq, if_true, if_false, eq_self, Nat.add_zero, Nat.zero_add, lit, lit_nn, I_nat, I_add, I_mul, I_sub, I_div, inb_t, I_ne, I_nn, nn_I, nn_lt, nn_le, lt_nn, le_nn, I_t, I_f, I_lt_t, I_lt_f, isb_0, isb_1, vz_0, vz_1, nn_nat]
            rcases u2 with u2 | u2
            · exact Or.inl u2
            · right
              by_cases w : 5 * j + u = p
              · rw [if_pos w, I_nn (by omega)]; exact fun z => z
              · rw [if_neg w]; exact u2
          · simp (disch := omega) only [ck1, bd1, bx1, bx2, aS_at, iS_at, upd_at, ↓reduceIte, Nat.reduceEqDiff, Nat.reduceAdd, Nat.reduceMul, Nat.reduceSub, Nat.reduceDiv, Nat.reduceLT, Nat.reduceLeDiff, Nat.reduceBEq, ne_eq, not_true_eq_false, not_false_eq_true, reduceCtorEq, if_true, if_false, eq_self, Nat.add_zero, Nat.zero_add, lit, lit_nn, I_nat, I_add, I_mul, I_sub, I_div, inb_t, I_ne, I_nn, nn_I, nn_lt, nn_le, lt_nn, le_nn, I_t, I_f, I_lt_t, I_lt_f, isb_0, isb_1, vz_0, vz_1, nn_nat]
            exact u3
      · simp (disch := omega) only [ck1, bd1, bx1, bx2, aS_at, iS_at, upd_at, ↓reduceIte, Nat.reduceEqDiff, Nat.reduceAdd, Nat.reduceMul, Nat.reduceSub, Nat.reduceDiv, Nat.reduceLT, Nat.reduceLeDiff, Nat.reduceBEq, ne_eq, not_true_eq_false, not_false_eq_true, reduceCtorEq, if_true, if_false, eq_self, Nat.add_zero, Nat.zero_add, lit, lit_nn, I_nat, I_add, I_mul, I_sub, I_div, inb_t, I_ne, I_nn, nn_I, nn_lt, nn_le, lt_nn, le_nn, I_t, I_f, I_lt_t, I_lt_f, isb_0, isb_1, vz_0, vz_1, nn_nat]
        by_cases w : k = p
        · subst w
          right; left
          rw [if_pos rfl, if_pos rfl]
          exact ⟨a2, g, hg, rfl, rfl⟩
        · rw [if_neg w, if_neg w]; exact lw k hk
      · simp (disch := omega) only [ck1, bd1, bx1, bx2, aS_at, iS_at, upd_at, ↓reduceIte, Nat.reduceEqDiff, Nat.reduceAdd, Nat.reduceMul, Nat.reduceSub, Nat.reduceDiv, Nat.reduceLT, Nat.reduceLeDiff, Nat.reduceBEq, ne_eq, not_true_eq_false, not_false_eq_true, reduceCtorEq, if_true, if_false, eq_self, Nat.add_zero, Nat.zero_add, lit, lit_nn, I_nat, I_add, I_mul, I_sub, I_div, inb_t, I_ne, I_nn, nn_I, nn_lt, nn_le, lt_nn, le_nn, I_t, I_f, I_lt_t, I_lt_f, isb_0, isb_1, vz_0, vz_1, nn_nat]
        by_cases w : g' = g
        · rw [if_pos w, if_pos w]
        · rw [if_neg w, if_neg w]; exact lh g' hg'
      · simp (disch := omega) only [ck1, bd1, bx1, bx2, aS_at, iS_at, upd_at, ↓reduceIte, Nat.reduceEqDiff, Nat.reduceAdd, Nat.reduceMul, Nat.reduceSub, Nat.reduceDiv, Nat.reduceLT, Nat.reduceLeDiff, Nat.reduceBEq, ne_eq, not_true_eq_false, not_false_eq_true, reduceCtorEq, if_true, if_false, eq_self, Nat.add_zero, Nat.zero_add, lit, lit_nn, I_nat, I_add, I_mul, I_sub, I_div, inb_t, I_ne, I_nn, nn_I, nn_lt, nn_le, lt_nn, le_nn, I_t, I_f, I_lt_t, I_lt_f, isb_0, isb_1, vz_0, vz_1, nn_nat]; exact lk j hj
      · simp (disch := omega) only [ck1, bd1, bx1, bx2, aS_at, iS_at, upd_at, ↓reduceIte, Nat.reduceEqDiff, Nat.reduceAdd, Nat.reduceMul, Nat.reduceSub, Nat.reduceDiv, Nat.reduceLT, Nat.reduceLeDiff, Nat.reduceBEq, ne_eq, not_true_eq_false, not_false_eq_true, reduceCtorEq, if_true, if_false, eq_self, Nat.add_zero, Nat.zero_add, lit, lit_nn, I_nat, I_add, I_mul, I_sub, I_div, inb_t, I_ne, I_nn, nn_I, nn_lt, nn_le, lt_nn, le_nn, I_t, I_f, I_lt_t, I_lt_f, isb_0, isb_1, vz_0, vz_1, nn_nat, g1]
      · simp (disch := omega) only [ck1, bd1, bx1, bx2, aS_at, iS_at, upd_at, ↓reduceIte, Nat.reduceEqDiff, Nat.reduceAdd, Nat.reduceMul, Nat.reduceSub, Nat.reduceDiv, Nat.reduceLT, Nat.reduceLeDiff, Nat.reduceBEq, ne_eq, not_true_eq_false, not_false_eq_true, reduceCtorEq, if_true, if_false, eq_self, Nat.add_zero, Nat.zero_add, lit, lit_nn, I_nat, I_add, I_mul, I_sub, I_div, inb_t, I_ne, I_nn, nn_I, nn_lt, nn_le, lt_nn, le_nn, I_t, I_f, I_lt_t, I_lt_f, isb_0, isb_1, vz_0, vz_1, nn_nat, g2]
      · simp (disch := omega) only [ck1, bd1, bx1, bx2, aS_at, iS_at, upd_at, ↓reduceIte, Nat.reduceEqDiff, Nat.reduceAdd, Nat.reduceMul, Nat.reduceSub, Nat.reduceDiv, Nat.reduceLT, Nat.reduceLeDiff, Nat.reduceBEq, ne_eq, not_true_eq_false, not_false_eq_true, reduceCtorEq, if_true, if_false, eq_self, Nat.add_zero, Nat.zero_add, lit, lit_nn, I_nat, I_add, I_mul, I_sub, I_div, inb_t, I_ne, I_nn, nn_I, nn_lt, nn_le, lt_nn, le_nn, I_t, I_f, I_lt_t, I_lt_f, isb_0, isb_1, vz_0, vz_1, nn_nat, g3]
      · simp (disch := omega) only [ck1, bd1, bx1, bx2, aS_at, iS_at, upd_at, ↓reduceIte, Nat.reduceEqDiff, Nat.reduceAdd, Nat.reduceMul, Nat.reduceSub, Nat.reduceDiv, Nat.reduceLT, Nat.reduceLeDiff, Nat.reduceBEq, ne_eq, not_true_eq_false, not_false_eq_true, reduceCtorEq, if_true, if_false, eq_self, Nat.add_zero, Nat.zero_add, lit, lit_nn, I_nat, I_add, I_mul, I_sub, I_div, inb_t, I_ne, I_nn, nn_I, nn_lt, nn_le, lt_nn, le_nn, I_t, I_f, I_lt_t, I_lt_f, isb_0, isb_1, vz_0, vz_1, nn_nat, g4]
      · simp (disch := omega) only [ck1, bd1, bx1, bx2, aS_at, iS_at, upd_at, ↓reduceIte, Nat.reduceEqDiff, Nat.reduceAdd, Nat.reduceMul, Nat.reduceSub, Nat.reduceDiv, Nat.reduceLT, Nat.reduceLeDiff, Nat.reduceBEq, ne_eq, not_true_eq_false, not_false_eq_true, reduceCtorEq, if_true, if_false, eq_self, Nat.add_zero, Nat.zero_add, lit, lit_nn, I_nat, I_add, I_mul, I_sub, I_div, inb_t, I_ne, I_nn, nn_I, nn_lt, nn_le, lt_nn, le_nn, I_t, I_f, I_lt_t, I_lt_f, isb_0, isb_1, vz_0, vz_1, nn_nat, g5]
      · simp (disch := omega) only [ck1, bd1, bx1, bx2, aS_at, iS_at, upd_at, ↓reduceIte, Nat.reduceEqDiff, Nat.reduceAdd, Nat.reduceMul, Nat.reduceSub, Nat.reduceDiv, Nat.reduceLT, Nat.reduceLeDiff, Nat.reduceBEq, ne_eq, not_true_eq_false, not_false_eq_true, reduceCtorEq, if_true, if_false, eq_self, Nat.add_zero, Nat.zero_add, lit, lit_nn, I_nat, I_add, I_mul, I_sub, I_div, inb_t, I_ne, I_nn, nn_I, nn_lt, nn_le, lt_nn, le_nn, I_t, I_f, I_lt_t, I_lt_f, isb_0, isb_1, vz_0, vz_1, nn_nat]; exact g6
    · rw [s1, if_pos (show (0 : Int32) ≤ I q by rw [zeroI, I_lt_t (by omega) (by omega)]; trivial)]
      exact ⟨cs, cw, ct, cl, cb, cp, cg, taken (Or.inr (by rw [s1, ne_eq, I_nn (by omega)]; exact fun z => z)), hm⟩

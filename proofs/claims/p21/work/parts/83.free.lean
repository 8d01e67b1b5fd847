/-! ===== the law frees a port ===== -/
def closed (ct : St) (k : Nat) : St := aS (aS (aS ct 6 (I k) (I 0)) 7 (I k) (I 0)) 8 (I k) (I 0)
theorem closed_at (ct : St) {k : Nat} (hk : k < 30) (j : Nat) : closed ct k 5 j = ct 5 j ∧ closed ct k 6 j = (if j = k then I 0 else ct 6 j) ∧ closed ct k 7 j = (if j = k then I 0 else ct 7 j) := by
  unfold closed
  simp (disch := omega) only [ck1, bd1, bx1, bx2, aS_at, iS_at, upd_at, ↓reduceIte, Nat.reduceEqDiff, Nat.reduceAdd, Nat.reduceMul, Nat.reduceSub, Nat.reduceDiv, Nat.reduceLT, Nat.reduceLeDiff, Nat.reduceBEq, ne_eq, not_true_eq_false, not_false_eq_true, reduceCtorEq, if_true, if_false, eq_self, Nat.add_zero, Nat.zero_add, lit, lit_nn, I_nat, I_add, I_mul, I_sub, I_div, inb_t, I_ne, I_nn, nn_I, nn_lt, nn_le, lt_nn, le_nn, I_t, I_f, I_lt_t, I_lt_f, isb_0, isb_1, vz_0, vz_1, nn_nat]
  exact ⟨trivial, trivial, trivial⟩
theorem closed_fs (ct : St) (k : Nat) : Fs [6, 7, 8] ct (closed ct k) := (((Fs.refl _ _).aS (by decide) _ _).aS (by decide) _ _).aS (by decide) _ _
theorem p_dropUse (ct cb : St) {k : Nat} (hk : k < 30) : Pc (fX5_dropUse ct cb (I k)) (fun r => r.1 = closed ct k ∧ Less cb r.2 ∧ NoWay k r.2) := by
  unfold fX5_dropUse
  refine pc_bd (p_close _ _) fun c hc => pc_bd (p_forget cb hk) fun d hd => pc_some ?_
  obtain ⟨j, hj, ej, rfl⟩ := hc
  rw [I_inj (by omega) (by omega)] at ej
  subst ej
  exact ⟨rfl, hd.1, hd.2⟩
theorem p_free (cw ct cb : St) {p : Nat} (hp : p < 30) : Pc (fX5_free cw ct cb (I (p / 5)) (I (p % 5))) (fun r =>
    (cw 0 p = nn ∧ cw 2 p = nn ∧ r = .inr 3) ∨
    (cw 0 p = nn ∧ cw 2 p ≠ nn ∧ ∃ a cb', a < 10 ∧ cw 2 p = I a ∧ r = .inl (cw 2 p, iS (aS (aS cw 2 (I p) nn) 4 (I a) nn) 7 (cw 7 0 - 1), closed ct p, cb') ∧ Less cb cb' ∧ NoWay p cb') ∨
    (cw 0 p ≠ nn ∧ ∃ j cb', j < 30 ∧ cw 0 p = I j ∧ r = .inl (nn, iS (aS (aS cw 0 (I p) nn) 0 (I j) nn) 6 (cw 6 0 - 1), closed (closed ct p) j, cb') ∧ Less cb cb' ∧ NoWay p cb' ∧ NoWay j cb')) := by
  have n1 := needPort_t (a := p / 5) (b := p % 5) (by omega) (by omega)
  unfold fX5_free
  rw [n1, bx1, spotN hp, bd1]
  by_cases w : cw 0 p ≠ nn ∨ cw 2 p ≠ nn
  · rw [bare_f cw hp w, bd1, if_pos z00, I_nat (by omega)]
    refine pc_ck fun _ => pc_if (fun e => pc_bd (p_dropUse ct cb hp) fun d hd => pc_bd (Ψ := fun r => ∃ a, a < 10 ∧ cw 2 p = I a ∧ r = (cw 2 p, iS (aS (aS cw 2 (I p) nn) 4 (I a) nn) 7 (cw 7 0 - 1))) ?_ fun r hr => pc_some ?_) (fun e => pc_bd (p_dropUse ct cb hp) fun d hd => ?_)
    · have e : cw 0 p = nn := e
      have h2 : cw 2 p ≠ nn := by
        rcases w with w | w
        · exact absurd e w
        · exact w
      unfold fX4_takeHouse
      rw [I_nat (by omega)]
      refine pc_ck fun _ => pc_ck fun _ => pc_if (fun z => absurd z h2) (fun z => pc_ck fun hin => pc_some ?_)
      obtain ⟨a, ha, ea⟩ := in10 hin
      refine ⟨a, ha, ea, ?_⟩
      rw [ea]
      rfl
    · have e : cw 0 p = nn := e
      have h2 : cw 2 p ≠ nn := by
        rcases w with w | w
        · exact absurd e w
        · exact w
      obtain ⟨a, ha, ea, rfl⟩ := hr
      refine Or.inr (Or.inl ⟨e, h2, a, d.2, ha, ea, ?_, hd.2.1, hd.2.2⟩)
      rw [hd.1]
    · have e : cw 0 p ≠ nn := e
      have hj : Pc (fX5_dropUse d.1 d.2 (cw 0 p)) (fun r => ∃ j, j < 30 ∧ cw 0 p = I j ∧ r.1 = closed d.1 j ∧ Less d.2 r.2 ∧ NoWay j r.2) := by
        unfold fX5_dropUse
        refine pc_bd (p_close _ _) fun c hc => ?_
        obtain ⟨j, hj, ej, rfl⟩ := hc
        rw [ej]
        exact pc_bd (p_forget d.2 hj) fun u hu => pc_some ⟨j, hj, rfl, rfl, hu.1, hu.2⟩
      refine pc_bd hj fun u hu => ?_
      obtain ⟨j, hj, ej, u1, u2, u3⟩ := hu
      rw [ej]
      refine pc_bd (Ψ := fun r => r = iS (aS (aS cw 0 (I p) nn) 0 (I j) nn) 6 (cw 6 0 - 1)) ?_ fun r hr => pc_some ?_
      · unfold fX4_takeWire
        exact pc_ck fun _ => pc_ck fun _ => pc_some rfl
      · subst hr
        refine Or.inr (Or.inr ⟨by rw [← ej]; exact e, j, u.2, hj, rfl, ?_, hd.2.1.trans u2, hd.2.2.less hp u2, u3⟩)
        rw [u1, hd.1]
        rfl
  · have w1 : cw 0 p = nn := Classical.byContradiction fun z => w (Or.inl z)
    have w2 : cw 2 p = nn := Classical.byContradiction fun z => w (Or.inr z)
    rw [bare_t cw hp w1 w2, bd1, if_neg z10]
    exact pc_some (Or.inl ⟨w1, w2, rfl⟩)
theorem does_free_ok {cs cw ct cl cb cp cw' ct' cb' : St} {x2 x3 x4 x5 x6 r : Int32} (h : fX5_free cw ct cb x2 x3 = some (.inl (r, cw', ct', cb'))) : fL_does cs cw ct cl cb cp 1 x2 x3 x4 x5 x6 = some (r, cs, cw', ct', cl, cb', cp) := by
  unfold fL_does
  rw [if_neg (by decide), if_pos rfl, h]
  rfl
theorem does_free_t {cs cw ct cl cb cp : St} {x2 x3 x4 x5 x6 : Int32} {k : Nat} (hk : k = 1 ∨ k = 2 ∨ k = 3) (h : fX5_free cw ct cb x2 x3 = some (.inr k)) : fL_does cs cw ct cl cb cp 1 x2 x3 x4 x5 x6 = some (xc k, cs, cw, ct, cl, cb, cp) := by
  unfold fL_does
  rw [if_neg (by decide), if_pos rfl, h]
  exact hxd hk (fun v => (v, cs, cw, ct, cl, cb, cp))
/-- tables behind a port that is shut or freed -/
theorem XTab.drop {cw ct cb cw' ct' cb' : St} (h : XTab cw ct cb) (l : Less cb cb') (k : ∀ j u, j < 6 → u < 5 → (∀ o, o < 30 → cb' 0 (30 * j + o) ≠ I u) ∨ ((cw 0 (5 * j + u) ≠ nn ∨ cw 2 (5 * j + u) ≠ nn) → ct 5 (5 * j + u) = I 0 → (cw' 0 (5 * j + u) ≠ nn ∨ cw' 2 (5 * j + u) ≠ nn) ∧ ct' 5 (5 * j + u) = I 0)) : XTab cw' ct' cb' := by
  intro j hj o ho
  rcases l (30 * j + o) (by omega) with e | e
  · exact Or.inl e
  · rcases h j hj o ho with w | ⟨u, hu, u1, u2, u3⟩
    · left; rw [e, w]
    · right
      rcases k j u hj hu with z | z
      · exact absurd (by rw [e, u1]) (z o ho)
      · obtain ⟨z1, z2⟩ := z u2 u3
        exact ⟨u, hu, by rw [e, u1], z1, z2⟩
theorem lp_free {N n : Nat} {cs cw ct cl cb cp cg : St} (h : LInv N n cs cw ct cl cb cg) {a b : Nat} (ha : a < 2147483648) :
    ∃ cs' cw' ct' cl' cb' cp' cg', fL_isPort cs cw ct cl cb cp cg 2 (I a) (I b) = some (I 1, cs', cw', ct', cl', cb', cp', cg') ∧ LInv N (n + 1) cs' cw' ct' cl' cb' cg' := by
  obtain ⟨p, ep⟩ : ∃ p, p = a % 30 := ⟨_, rfl⟩
  have hp : p < 30 := by omega
  have e30 : I a - I a / 30 * 30 = I p := by rw [show (30 : Int32) = I 30 from rfl, mod_I ha (by omega), ep]
  unfold fL_isPort
  rw [if_neg (by decide), if_neg (by decide), if_pos rfl, e30, inb_t hp (by omega), ck1, I_nat (by omega)]
  have hm : LInv N (n + 1) cs cw ct cl cb cg := h.mono (by omega)
  have hat := h.at hp
  obtain ⟨⟨mm, hr⟩, ⟨c1, c2, c3, c4⟩, lw, lh, lk, g1, g2, g3, g4, g5, g6⟩ := id hm
  have ho := rel_one hr
  have sf := sim_free hr (I (p / 5)) (I (p % 5))
  have pf := p_free cw ct cb hp
  rcases hat with ⟨z1, z2, z3⟩ | ⟨j, c, hj, z1, z2, z3, z4, z5, z6, z7, z8, z9, z10', z11⟩ | ⟨g, hg, z1, z2, z3⟩
  · rw [z1, if_neg (show ¬ (0 : Int32) ≤ nn by decide)]
    have ef : fX5_free cw ct cb (I (p / 5)) (I (p % 5)) = some (.inr 3) := by
      rcases sf with ⟨k, r, m', -, e, -⟩ | ⟨r, cw', ct', cb', m', e, -⟩
      · rcases pf _ e with ⟨-, -, y⟩ | ⟨-, y, -⟩ | ⟨y, -⟩
        · rw [e, y]
        · exact absurd z3 y
        · exact absurd z2 y
      · rcases pf _ e with ⟨-, -, y⟩ | ⟨-, y, -⟩ | ⟨y, -⟩
        · rw [e, y]
        · exact absurd z3 y
        · exact absurd z2 y
    refine ⟨cs, cw, ct, cl, cb, cp, aS cg 0 (I p) nn, ?_, ⟨mm, hr⟩, ⟨c1, c2, c3, c4⟩, fun k hk => ?_, fun g' hg' => ?_, fun j hj => ?_, ?_, ?_, ?_, ?_, ?_, ?_⟩
    · unfold fL_isPort_J312 fL_isPort_J358
      rw [mod5 (by omega), div5 (by omega), does_free_t (Or.inr (Or.inr rfl)) ef, if_pos (show nn < 100 by decide), if_pos (show nn < 0 by decide), inb_t hp (by omega), ck1, bd1]
      exact if_pos rfl
    · simp (disch := omega) only [ck1, bd1, bx1, bx2, aS_at, iS_at, upd_at, ↓reduceIte, Nat.reduceEqDiff, Nat.reduceAdd, Nat.reduceMul, Nat.reduceSub, Nat.reduceDiv, Nat.reduceLT, Nat.reduceLeDiff, Nat.reduceBEq, ne_eq, not_true_eq_false, not_false_eq_true, reduceCtorEq, if_true, if_false, eq_self, Nat.add_zero, Nat.zero_add, lit, lit_nn, I_nat, I_add, I_mul, I_sub, I_div, inb_t, I_ne, I_nn, nn_I, nn_lt, nn_le, lt_nn, le_nn, I_t, I_f, I_lt_t, I_lt_f, isb_0, isb_1, vz_0, vz_1, nn_nat]
      by_cases w : k = p
      · subst w
        rw [if_pos rfl]
        exact Or.inr (Or.inr ⟨z2, z3, rfl⟩)
      · rw [if_neg w]; exact lw k hk
    · simp (disch := omega) only [ck1, bd1, bx1, bx2, aS_at, iS_at, upd_at, ↓reduceIte, Nat.reduceEqDiff, Nat.reduceAdd, Nat.reduceMul, Nat.reduceSub, Nat.reduceDiv, Nat.reduceLT, Nat.reduceLeDiff, Nat.reduceBEq, ne_eq, not_true_eq_false, not_false_eq_true, reduceCtorEq, if_true, if_false, eq_self, Nat.add_zero, Nat.zero_add, lit, lit_nn, I_nat, I_add, I_mul, I_sub, I_div, inb_t, I_ne, I_nn, nn_I, nn_lt, nn_le, lt_nn, le_nn, I_t, I_f, I_lt_t, I_lt_f, isb_0, isb_1, vz_0, vz_1, nn_nat]; exact lh g' hg'
    · simp (disch := omega) only [ck1, bd1, bx1, bx2, aS_at, iS_at, upd_at, ↓reduceIte, Nat.reduceEqDiff, Nat.reduceAdd, Nat.reduceMul, Nat.reduceSub, Nat.reduceDiv, Nat.reduceLT, Nat.reduceLeDiff, Nat.reduceBEq, ne_eq, not_true_eq_false, not_false_eq_true, reduceCtorEq, if_true, if_false, eq_self, Nat.add_zero, Nat.zero_add, lit, lit_nn, I_nat, I_add, I_mul, I_sub, I_div, inb_t, I_ne, I_nn, nn_I, nn_lt, nn_le, lt_nn, le_nn, I_t, I_f, I_lt_t, I_lt_f, isb_0, isb_1, vz_0, vz_1, nn_nat]; exact lk j hj
    · simp (disch := omega) only [ck1, bd1, bx1, bx2, aS_at, iS_at, upd_at, ↓reduceIte, Nat.reduceEqDiff, Nat.reduceAdd, Nat.reduceMul, Nat.reduceSub, Nat.reduceDiv, Nat.reduceLT, Nat.reduceLeDiff, Nat.reduceBEq, ne_eq, not_true_eq_false, not_false_eq_true, reduceCtorEq, if_true, if_false, eq_self, Nat.add_zero, Nat.zero_add, lit, lit_nn, I_nat, I_add, I_mul, I_sub, I_div, inb_t, I_ne, I_nn, nn_I, nn_lt, nn_le, lt_nn, le_nn, I_t, I_f, I_lt_t, I_lt_f, isb_0, isb_1, vz_0, vz_1, nn_nat, g1]
    · simp (disch := omega) only [ck1, bd1, bx1, bx2, aS_at, iS_at, upd_at, ↓reduceIte, Nat.reduceEqDiff, Nat.reduceAdd, Nat.reduceMul, Nat.reduceSub, Nat.reduceDiv, Nat.reduceLT, Nat.reduceLeDiff, Nat.reduceBEq, ne_eq, not_true_eq_false, not_false_eq_true, reduceCtorEq, if_true, if_false, eq_self, Nat.add_zero, Nat.zero_add, lit, lit_nn, I_nat, I_add, I_mul, I_sub, I_div, inb_t, I_ne, I_nn, nn_I, nn_lt, nn_le, lt_nn, le_nn, I_t, I_f, I_lt_t, I_lt_f, isb_0, isb_1, vz_0, vz_1, nn_nat, g2]
    · simp (disch := omega) only [ck1, bd1, bx1, bx2, aS_at, iS_at, upd_at, ↓reduceIte, Nat.reduceEqDiff, Nat.reduceAdd, Nat.reduceMul, Nat.reduceSub, Nat.reduceDiv, Nat.reduceLT, Nat.reduceLeDiff, Nat.reduceBEq, ne_eq, not_true_eq_false, not_false_eq_true, reduceCtorEq, if_true, if_false, eq_self, Nat.add_zero, Nat.zero_add, lit, lit_nn, I_nat, I_add, I_mul, I_sub, I_div, inb_t, I_ne, I_nn, nn_I, nn_lt, nn_le, lt_nn, le_nn, I_t, I_f, I_lt_t, I_lt_f, isb_0, isb_1, vz_0, vz_1, nn_nat, g3]
    · simp (disch := omega) only [ck1, bd1, bx1, bx2, aS_at, iS_at, upd_at, ↓reduceIte, Nat.reduceEqDiff, Nat.reduceAdd, Nat.reduceMul, Nat.reduceSub, Nat.reduceDiv, Nat.reduceLT, Nat.reduceLeDiff, Nat.reduceBEq, ne_eq, not_true_eq_false, not_false_eq_true, reduceCtorEq, if_true, if_false, eq_self, Nat.add_zero, Nat.zero_add, lit, lit_nn, I_nat, I_add, I_mul, I_sub, I_div, inb_t, I_ne, I_nn, nn_I, nn_lt, nn_le, lt_nn, le_nn, I_t, I_f, I_lt_t, I_lt_f, isb_0, isb_1, vz_0, vz_1, nn_nat, g4]
    · simp (disch := omega) only [ck1, bd1, bx1, bx2, aS_at, iS_at, upd_at, ↓reduceIte, Nat.reduceEqDiff, Nat.reduceAdd, Nat.reduceMul, Nat.reduceSub, Nat.reduceDiv, Nat.reduceLT, Nat.reduceLeDiff, Nat.reduceBEq, ne_eq, not_true_eq_false, not_false_eq_true, reduceCtorEq, if_true, if_false, eq_self, Nat.add_zero, Nat.zero_add, lit, lit_nn, I_nat, I_add, I_mul, I_sub, I_div, inb_t, I_ne, I_nn, nn_I, nn_lt, nn_le, lt_nn, le_nn, I_t, I_f, I_lt_t, I_lt_f, isb_0, isb_1, vz_0, vz_1, nn_nat, g5]
    · simp (disch := omega) only [ck1, bd1, bx1, bx2, aS_at, iS_at, upd_at, ↓reduceIte, Nat.reduceEqDiff, Nat.reduceAdd, Nat.reduceMul, Nat.reduceSub, Nat.reduceDiv, Nat.reduceLT, Nat.reduceLeDiff, Nat.reduceBEq, ne_eq, not_true_eq_false, not_false_eq_true, reduceCtorEq, if_true, if_false, eq_self, Nat.add_zero, Nat.zero_add, lit, lit_nn, I_nat, I_add, I_mul, I_sub, I_div, inb_t, I_ne, I_nn, nn_I, nn_lt, nn_le, lt_nn, le_nn, I_t, I_f, I_lt_t, I_lt_f, isb_0, isb_1, vz_0, vz_1, nn_nat]; exact g6
  · rw [z1, if_pos (show (0 : Int32) ≤ I j by rw [zeroI, I_lt_t (by omega) (by omega)]; trivial), if_neg (show ¬ (100 : Int32) ≤ I j by rw [lit, I_lt_f (by omega) (by omega)]; exact fun z => z)]
    have hne : cw 0 p ≠ nn := by rw [z2, ne_eq, I_nn (by omega)]; exact fun z => z
    have hjp : j ≠ p := fun e => z6 (by rw [e])
    obtain ⟨cb', ef, l1, l2, l3, mm', hr'⟩ : ∃ cb', fX5_free cw ct cb (I (p / 5)) (I (p % 5)) = some (.inl (nn, iS (aS (aS cw 0 (I p) nn) 0 (I j) nn) 6 (cw 6 0 - 1), closed (closed ct p) j, cb')) ∧ Less cb cb' ∧ NoWay p cb' ∧ NoWay j cb' ∧ ∃ mm', Rel N cs (iS (aS (aS cw 0 (I p) nn) 0 (I j) nn) 6 (cw 6 0 - 1)) (closed (closed ct p) j) cl cb' mm' := by
      rcases sf with ⟨k, r, m', -, e, -⟩ | ⟨r, cw', ct', cb', m', e, -, -, e4⟩
      · rcases pf _ e with ⟨y, -, -⟩ | ⟨y, -, -⟩ | ⟨-, j', cb', -, -, y, -⟩
        · exact absurd y hne
        · exact absurd y hne
        · cases y
      · rcases pf _ e with ⟨y, -, -⟩ | ⟨y, -, -⟩ | ⟨-, j', cb2, hj', ej, y, y1, y2, y3⟩
        · exact absurd y hne
        · exact absurd y hne
        · rw [z2, I_inj (by omega) (by omega)] at ej
          subst ej
          cases y
          exact ⟨_, e, y1, y2, y3, m', e4⟩
    refine ⟨cs, _, _, cl, cb', cp, aS (aS (aS cg 0 (I j) nn) 4 (I 0) (cg 4 0 - 1)) 0 (I p) nn, ?_, ⟨mm', hr'⟩, ⟨fun k hk => ?_, c2.drop l1 fun i u hi hu => ?_, fun s hs => ?_, c4⟩, fun k hk => ?_, fun g' hg' => ?_, fun i hi => ?_, ?_, ?_, ?_, ?_, ?_, ?_⟩
    · unfold fL_isPort_J312 fL_isPort_J358
      rw [mod5 (by omega), div5 (by omega), does_free_ok ef, if_pos (show I j < 100 by rw [lit, I_t (by omega) (by omega)]; trivial), if_neg (show ¬ I j < 0 by rw [zeroI, I_f (by omega) (by omega)]; exact fun z => z), inb_t hj (by omega), ck1, inb_t hp (by omega), show inb 0 6 = true by decide, ck1, ck1, ck1, bd1]
      exact if_pos rfl
    · obtain ⟨x1, x2, x3, x4, x5⟩ := c1 k hk
      have q1 := closed_at (closed ct p) hj k
      have q2 := closed_at ct hp k
      unfold XP
      rw [q1.1, q1.2.1, q1.2.2, q2.1, q2.2.1, q2.2.2]
      simp (disch := omega) only [ck1, bd1, bx1, bx2, aS_at, iS_at, upd_at, ↓reduceIte, Nat.reduceEqDiff, Nat.reduceAdd, Nat.reduceMul, Nat.reduceSub, Nat.reduceDiv, Nat.reduceLT, Nat.reduceLeDiff, Nat.reduceBEq, ne_eq, not_true_eq_false, not_false_eq_true, reduceCtorEq, if_true, if_false, eq_self, Nat.add_zero, Nat.zero_add, lit, lit_nn, I_nat, I_add, I_mul, I_sub, I_div, inb_t, I_ne, I_nn, nn_I, nn_lt, nn_le, lt_nn, le_nn, I_t, I_f, I_lt_t, I_lt_f, isb_0, isb_1, vz_0, vz_1, nn_nat]
      by_cases w : k = j
      · subst w
        simp only [if_true, I10, false_implies, implies_true, true_and, I_ne]
        have h2 : cw 2 k = nn := ho k hk (by rw [z4, ne_eq, I_nn (by omega)]; exact fun z => z)
        simp [h2, I10]
      · by_cases v : k = p
        · subst v
          simp [w, z3, I10]
        · simp only [w, v, if_false]
          exact ⟨x1, x2, x3, x4, x5⟩
    · by_cases w : 5 * i + u = p
      · left
        intro o ho'
        have := l2 o ho'
        rw [show p / 5 = i by omega, show p % 5 = u by omega] at this
        exact this
      · by_cases v : 5 * i + u = j
        · left
          intro o ho'
          have := l3 o ho'
          rw [show j / 5 = i by omega, show j % 5 = u by omega] at this
          exact this
        · right
          intro f1 f2
          rw [(closed_at (closed ct p) hj _).1, (closed_at ct hp _).1]
          simp (disch := omega) only [ck1, bd1, bx1, bx2, aS_at, iS_at, upd_at, ↓reduceIte, Nat.reduceEqDiff, Nat.reduceAdd, Nat.reduceMul, Nat.reduceSub, Nat.reduceDiv, Nat.reduceLT, Nat.reduceLeDiff, Nat.reduceBEq, ne_eq, not_true_eq_false, not_false_eq_true, reduceCtorEq, if_true, if_false, eq_self, Nat.add_zero, Nat.zero_add, lit, lit_nn, I_nat, I_add, I_mul, I_sub, I_div, inb_t, I_ne, I_nn, nn_I, nn_lt, nn_le, lt_nn, le_nn, I_t, I_f, I_lt_t, I_lt_f, isb_0, isb_1, vz_0, vz_1, nn_nat]
          rw [if_neg v, if_neg w]
          exact ⟨f1, f2⟩
    · have := c3 s hs
      unfold Own at this ⊢
      have f := (closed_fs ct p).trans (closed_fs (closed ct p) j)
      rw [f 4 (by decide), f 1 (by decide), f 2 (by decide), f 3 (by decide)]
      exact this
    · simp (disch := omega) only [ck1, bd1, bx1, bx2, aS_at, iS_at, upd_at, ↓reduceIte, Nat.reduceEqDiff, Nat.reduceAdd, Nat.reduceMul, Nat.reduceSub, Nat.reduceDiv, Nat.reduceLT, Nat.reduceLeDiff, Nat.reduceBEq, ne_eq, not_true_eq_false, not_false_eq_true, reduceCtorEq, if_true, if_false, eq_self, Nat.add_zero, Nat.zero_add, lit, lit_nn, I_nat, I_add, I_mul, I_sub, I_div, inb_t, I_ne, I_nn, nn_I, nn_lt, nn_le, lt_nn, le_nn, I_t, I_f, I_lt_t, I_lt_f, isb_0, isb_1, vz_0, vz_1, nn_nat]
      by_cases w : k = p
      · subst w
        right; right
        simp [z3, I10]
      · by_cases v : k = j
        · subst v
          right; right
          have h2 : cw 2 k = nn := ho k hk (by rw [z4, ne_eq, I_nn (by omega)]; exact fun z => z)
          simp [w, h2]
        · simp only [w, v, if_false]
          exact lw k hk
    · simp (disch := omega) only [ck1, bd1, bx1, bx2, aS_at, iS_at, upd_at, ↓reduceIte, Nat.reduceEqDiff, Nat.reduceAdd, Nat.reduceMul, Nat.reduceSub, Nat.reduceDiv, Nat.reduceLT, Nat.reduceLeDiff, Nat.reduceBEq, ne_eq, not_true_eq_false, not_false_eq_true, reduceCtorEq, if_true, if_false, eq_self, Nat.add_zero, Nat.zero_add, lit, lit_nn, I_nat, I_add, I_mul, I_sub, I_div, inb_t, I_ne, I_nn, nn_I, nn_lt, nn_le, lt_nn, le_nn, I_t, I_f, I_lt_t, I_lt_f, isb_0, isb_1, vz_0, vz_1, nn_nat]; exact lh g' hg'
    · simp (disch := omega) only [ck1, bd1, bx1, bx2, aS_at, iS_at, upd_at, ↓reduceIte, Nat.reduceEqDiff, Nat.reduceAdd, Nat.reduceMul, Nat.reduceSub, Nat.reduceDiv, Nat.reduceLT, Nat.reduceLeDiff, Nat.reduceBEq, ne_eq, not_true_eq_false, not_false_eq_true, reduceCtorEq, if_true, if_false, eq_self, Nat.add_zero, Nat.zero_add, lit, lit_nn, I_nat, I_add, I_mul, I_sub, I_div, inb_t, I_ne, I_nn, nn_I, nn_lt, nn_le, lt_nn, le_nn, I_t, I_f, I_lt_t, I_lt_f, isb_0, isb_1, vz_0, vz_1, nn_nat]; exact lk i hi
    · simp (disch := omega) only [ck1, bd1, bx1, bx2, aS_at, iS_at, upd_at, ↓reduceIte, Nat.reduceEqDiff, Nat.reduceAdd, Nat.reduceMul, Nat.reduceSub, Nat.reduceDiv, Nat.reduceLT, Nat.reduceLeDiff, Nat.reduceBEq, ne_eq, not_true_eq_false, not_false_eq_true, reduceCtorEq, if_true, if_false, eq_self, Nat.add_zero, Nat.zero_add, lit, lit_nn, I_nat, I_add, I_mul, I_sub, I_div, inb_t, I_ne, I_nn, nn_I, nn_lt, nn_le, lt_nn, le_nn, I_t, I_f, I_lt_t, I_lt_f, isb_0, isb_1, vz_0, vz_1, nn_nat, g1]
    · simp (disch := omega) only [ck1, bd1, bx1, bx2, aS_at, iS_at, upd_at, ↓reduceIte, Nat.reduceEqDiff, Nat.reduceAdd, Nat.reduceMul, Nat.reduceSub, Nat.reduceDiv, Nat.reduceLT, Nat.reduceLeDiff, Nat.reduceBEq, ne_eq, not_true_eq_false, not_false_eq_true, reduceCtorEq, if_true, if_false, eq_self, Nat.add_zero, Nat.zero_add, lit, lit_nn, I_nat, I_add, I_mul, I_sub, I_div, inb_t, I_ne, I_nn, nn_I, nn_lt, nn_le, lt_nn, le_nn, I_t, I_f, I_lt_t, I_lt_f, isb_0, isb_1, vz_0, vz_1, nn_nat, g2]
    · have f := (closed_fs ct p).trans (closed_fs (closed ct p) j)
      rw [f 9 (by decide)]
      simp (disch := omega) only [ck1, bd1, bx1, bx2, aS_at, iS_at, upd_at, ↓reduceIte, Nat.reduceEqDiff, Nat.reduceAdd, Nat.reduceMul, Nat.reduceSub, Nat.reduceDiv, Nat.reduceLT, Nat.reduceLeDiff, Nat.reduceBEq, ne_eq, not_true_eq_false, not_false_eq_true, reduceCtorEq, if_true, if_false, eq_self, Nat.add_zero, Nat.zero_add, lit, lit_nn, I_nat, I_add, I_mul, I_sub, I_div, inb_t, I_ne, I_nn, nn_I, nn_lt, nn_le, lt_nn, le_nn, I_t, I_f, I_lt_t, I_lt_f, isb_0, isb_1, vz_0, vz_1, nn_nat, g3]
    · simp (disch := omega) only [ck1, bd1, bx1, bx2, aS_at, iS_at, upd_at, ↓reduceIte, Nat.reduceEqDiff, Nat.reduceAdd, Nat.reduceMul, Nat.reduceSub, Nat.reduceDiv, Nat.reduceLT, Nat.reduceLeDiff, Nat.reduceBEq, ne_eq, not_true_eq_false, not_false_eq_true, reduceCtorEq, if_true, if_false, eq_self, Nat.add_zero, Nat.zero_add, lit, lit_nn, I_nat, I_add, I_mul, I_sub, I_div, inb_t, I_ne, I_nn, nn_I, nn_lt, nn_le, lt_nn, le_nn, I_t, I_f, I_lt_t, I_lt_f, isb_0, isb_1, vz_0, vz_1, nn_nat, g4]
    · simp (disch := omega) only [ck1, bd1, bx1, bx2, aS_at, iS_at, upd_at, ↓reduceIte, Nat.reduceEqDiff, Nat.reduceAdd, Nat.reduceMul, Nat.reduceSub, Nat.reduceDiv, Nat.reduceLT, Nat.reduceLeDiff, Nat.reduceBEq, ne_eq, not_true_eq_false, not_false_eq_true, reduceCtorEq, if_true, if_false, eq_self, Nat.add_zero, Nat.zero_add, lit, lit_nn, I_nat, I_add, I_mul, I_sub, I_div, inb_t, I_ne, I_nn, nn_I, nn_lt, nn_le, lt_nn, le_nn, I_t, I_f, I_lt_t, I_lt_f, isb_0, isb_1, vz_0, vz_1, nn_nat, g5]
    · simp (disch := omega) only [ck1, bd1, bx1, bx2, aS_at, iS_at, upd_at, ↓reduceIte, Nat.reduceEqDiff, Nat.reduceAdd, Nat.reduceMul, Nat.reduceSub, Nat.reduceDiv, Nat.reduceLT, Nat.reduceLeDiff, Nat.reduceBEq, ne_eq, not_true_eq_false, not_false_eq_true, reduceCtorEq, if_true, if_false, eq_self, Nat.add_zero, Nat.zero_add, lit, lit_nn, I_nat, I_add, I_mul, I_sub, I_div, inb_t, I_ne, I_nn, nn_I, nn_lt, nn_le, lt_nn, le_nn, I_t, I_f, I_lt_t, I_lt_f, isb_0, isb_1, vz_0, vz_1, nn_nat]; exact g6
  · rw [z1, if_pos (show (0 : Int32) ≤ I (100 + g) by rw [zeroI, I_lt_t (by omega) (by omega)]; trivial), if_pos (show (100 : Int32) ≤ I (100 + g) by rw [lit, I_lt_t (by omega) (by omega)]; trivial)]
    have hne : cw 2 p ≠ nn := by rw [z2, ne_eq, I_nn (by omega)]; exact fun z => z
    have esub : I (100 + g) - 100 = I g := by rw [lit, I_sub (by omega), Nat.add_sub_cancel_left]
    obtain ⟨cb', ef, l1, l2, mm', hr'⟩ : ∃ cb', fX5_free cw ct cb (I (p / 5)) (I (p % 5)) = some (.inl (I g, iS (aS (aS cw 2 (I p) nn) 4 (I g) nn) 7 (cw 7 0 - 1), closed ct p, cb')) ∧ Less cb cb' ∧ NoWay p cb' ∧ ∃ mm', Rel N cs (iS (aS (aS cw 2 (I p) nn) 4 (I g) nn) 7 (cw 7 0 - 1)) (closed ct p) cl cb' mm' := by
      rcases sf with ⟨k, r, m', -, e, -⟩ | ⟨r, cw', ct', cb', m', e, -, -, e4⟩
      · rcases pf _ e with ⟨-, y, -⟩ | ⟨-, -, a, cb', -, -, y, -⟩ | ⟨y, -⟩
        · exact absurd y hne
        · cases y
        · exact absurd z3 y
      · rcases pf _ e with ⟨-, y, -⟩ | ⟨-, -, a, cb2, ha', ea, y, y1, y2⟩ | ⟨y, -⟩
        · exact absurd y hne
        · rw [z2, I_inj (by omega) (by omega)] at ea
          subst ea
          rw [z2] at y
          cases y
          exact ⟨_, e, y1, y2, m', e4⟩
        · exact absurd z3 y
    refine ⟨cs, _, _, cl, cb', cp, aS (aS (aS cg 2 (I g) nn) 4 (I 1) (cg 4 1 - 1)) 0 (I p) nn, ?_, ⟨mm', hr'⟩, ⟨fun k hk => ?_, c2.drop l1 fun i u hi hu => ?_, fun s hs => ?_, c4⟩, fun k hk => ?_, fun g' hg' => ?_, fun i hi => ?_, ?_, ?_, ?_, ?_, ?_, ?_⟩
    · unfold fL_isPort_J312 fL_isPort_J358
      rw [esub, mod5 (by omega), div5 (by omega), does_free_ok ef, if_neg (show ¬ I (100 + g) < 100 by rw [lit, I_f (by omega) (by omega)]; exact fun z => z), inb_t hg (by omega), ck1, inb_t hp (by omega), show inb 1 6 = true by decide, ck1, ck1, ck1, bd1]
      exact if_pos rfl
    · obtain ⟨x1, x2, x3, x4, x5⟩ := c1 k hk
      have q2 := closed_at ct hp k
      unfold XP
      rw [q2.1, q2.2.1, q2.2.2]
      simp (disch := omega) only [ck1, bd1, bx1, bx2, aS_at, iS_at, upd_at, ↓reduceIte, Nat.reduceEqDiff, Nat.reduceAdd, Nat.reduceMul, Nat.reduceSub, Nat.reduceDiv, Nat.reduceLT, Nat.reduceLeDiff, Nat.reduceBEq, ne_eq, not_true_eq_false, not_false_eq_true, reduceCtorEq, if_true, if_false, eq_self, Nat.add_zero, Nat.zero_add, lit, lit_nn, I_nat, I_add, I_mul, I_sub, I_div, inb_t, I_ne, I_nn, nn_I, nn_lt, nn_le, lt_nn, le_nn, I_t, I_f, I_lt_t, I_lt_f, isb_0, isb_1, vz_0, vz_1, nn_nat]
      by_cases v : k = p
      · subst v
        simp [z3, I10]
      · simp only [v, if_false]
        exact ⟨x1, x2, x3, x4, x5⟩
    · by_cases w : 5 * i + u = p
      · left
        intro o ho'
        have := l2 o ho'
        rw [show p / 5 = i by omega, show p % 5 = u by omega] at this
        exact this
      · right
        intro f1 f2
        rw [(closed_at ct hp _).1]
        simp (disch := omega) only [ck1, bd1, bx1, bx2, aS_at, iS_at, upd_at, ↓reduceIte, Nat.reduceEqDiff, Nat.reduceAdd, Nat.reduceMul, Nat.reduceSub, Nat.reduceDiv, Nat.reduceLT, Nat.reduceLeDiff, Nat.reduceBEq, ne_eq, not_true_eq_false, not_false_eq_true, reduceCtorEq, if_true, if_false, eq_self, Nat.add_zero, Nat.zero_add, lit, lit_nn, I_nat, I_add, I_mul, I_sub, I_div, inb_t, I_ne, I_nn, nn_I, nn_lt, nn_le, lt_nn, le_nn, I_t, I_f, I_lt_t, I_lt_f, isb_0, isb_1, vz_0, vz_1, nn_nat]
        rw [if_neg w]
        exact ⟨f1, f2⟩
    · have := c3 s hs
      unfold Own at this ⊢
      have f := closed_fs ct p
      rw [f 4 (by decide), f 1 (by decide), f 2 (by decide), f 3 (by decide)]
      exact this
    · simp (disch := omega) only [ck1, bd1, bx1, bx2, aS_at, iS_at, upd_at, ↓reduceIte, Nat.reduceEqDiff, Nat.reduceAdd, Nat.reduceMul, Nat.reduceSub, Nat.reduceDiv, Nat.reduceLT, Nat.reduceLeDiff, Nat.reduceBEq, ne_eq, not_true_eq_false, not_false_eq_true, reduceCtorEq, if_true, if_false, eq_self, Nat.add_zero, Nat.zero_add, lit, lit_nn, I_nat, I_add, I_mul, I_sub, I_div, inb_t, I_ne, I_nn, nn_I, nn_lt, nn_le, lt_nn, le_nn, I_t, I_f, I_lt_t, I_lt_f, isb_0, isb_1, vz_0, vz_1, nn_nat]
      by_cases w : k = p
      · subst w
        right; right
        simp [z3, I10]
      · simp only [w, if_false]
        exact lw k hk
    · simp (disch := omega) only [ck1, bd1, bx1, bx2, aS_at, iS_at, upd_at, ↓reduceIte, Nat.reduceEqDiff, Nat.reduceAdd, Nat.reduceMul, Nat.reduceSub, Nat.reduceDiv, Nat.reduceLT, Nat.reduceLeDiff, Nat.reduceBEq, ne_eq, not_true_eq_false, not_false_eq_true, reduceCtorEq, if_true, if_false, eq_self, Nat.add_zero, Nat.zero_add, lit, lit_nn, I_nat, I_add, I_mul, I_sub, I_div, inb_t, I_ne, I_nn, nn_I, nn_lt, nn_le, lt_nn, le_nn, I_t, I_f, I_lt_t, I_lt_f, isb_0, isb_1, vz_0, vz_1, nn_nat]
      by_cases w : g' = g
      · rw [if_pos w, if_pos w]
      · rw [if_neg w, if_neg w]; exact lh g' hg'
    · simp (disch := omega) only [ck1, bd1, bx1, bx2, aS_at, iS_at, upd_at, ↓reduceIte, Nat.reduceEqDiff, Nat.reduceAdd, Nat.reduceMul, Nat.reduceSub, Nat.reduceDiv, Nat.reduceLT, Nat.reduceLeDiff, Nat.reduceBEq, ne_eq, not_true_eq_false, not_false_eq_true, reduceCtorEq, if_true, if_false, eq_self, Nat.add_zero, Nat.zero_add, lit, lit_nn, I_nat, I_add, I_mul, I_sub, I_div, inb_t, I_ne, I_nn, nn_I, nn_lt, nn_le, lt_nn, le_nn, I_t, I_f, I_lt_t, I_lt_f, isb_0, isb_1, vz_0, vz_1, nn_nat]; exact lk i hi
    · simp (disch := omega) only [ck1, bd1, bx1, bx2, aS_at, iS_at, upd_at, ↓reduceIte, Nat.reduceEqDiff, Nat.reduceAdd, Nat.reduceMul, Nat.reduceSub, Nat.reduceDiv, Nat.reduceLT, Nat.reduceLeDiff, Nat.reduceBEq, ne_eq, not_true_eq_false, not_false_eq_true, reduceCtorEq, if_true, if_false, eq_self, Nat.add_zero, Nat.zero_add, lit, lit_nn, I_nat, I_add, I_mul, I_sub, I_div, inb_t, I_ne, I_nn, nn_I, nn_lt, nn_le, lt_nn, le_nn, I_t, I_f, I_lt_t, I_lt_f, isb_0, isb_1, vz_0, vz_1, nn_nat, g1]
    · simp (disch := omega) only [ck1, bd1, bx1, bx2, aS_at, iS_at, upd_at, ↓reduceIte, Nat.reduceEqDiff, Nat.reduceAdd, Nat.reduceMul, Nat.reduceSub, Nat.reduceDiv, Nat.reduceLT, Nat.reduceLeDiff, Nat.reduceBEq, ne_eq, not_true_eq_false, not_false_eq_true, reduceCtorEq, if_true, if_false, eq_self, Nat.add_zero, Nat.zero_add, lit, lit_nn, I_nat, I_add, I_mul, I_sub, I_div, inb_t, I_ne, I_nn, nn_I, nn_lt, nn_le, lt_nn, le_nn, I_t, I_f, I_lt_t, I_lt_f, isb_0, isb_1, vz_0, vz_1, nn_nat, g2]
    · have f := closed_fs ct p
      rw [f 9 (by decide)]
      simp (disch := omega) only [ck1, bd1, bx1, bx2, aS_at, iS_at, upd_at, ↓reduceIte, Nat.reduceEqDiff, Nat.reduceAdd, Nat.reduceMul, Nat.reduceSub, Nat.reduceDiv, Nat.reduceLT, Nat.reduceLeDiff, Nat.reduceBEq, ne_eq, not_true_eq_false, not_false_eq_true, reduceCtorEq, if_true, if_false, eq_self, Nat.add_zero, Nat.zero_add, lit, lit_nn, I_nat, I_add, I_mul, I_sub, I_div, inb_t, I_ne, I_nn, nn_I, nn_lt, nn_le, lt_nn, le_nn, I_t, I_f, I_lt_t, I_lt_f, isb_0, isb_1, vz_0, vz_1, nn_nat, g3]
    · simp (disch := omega) only [ck1, bd1, bx1, bx2, aS_at, iS_at, upd_at, ↓reduceIte, Nat.reduceEqDiff, Nat.reduceAdd, Nat.reduceMul, Nat.reduceSub, Nat.reduceDiv, Nat.reduceLT, Nat.reduceLeDiff, Nat.reduceBEq, ne_eq, not_true_eq_false, not_false_eq_true, reduceCtorEq, if_true, if_false, eq_self, Nat.add_zero, Nat.zero_add, lit, lit_nn, I_nat, I_add, I_mul, I_sub, I_div, inb_t, I_ne, I_nn, nn_I, nn_lt, nn_le, lt_nn, le_nn, I_t, I_f, I_lt_t, I_lt_f, isb_0, isb_1, vz_0, vz_1, nn_nat, g4]
    · simp (disch := omega) only [ck1, bd1, bx1, bx2, aS_at, iS_at, upd_at, ↓reduceIte, Nat.reduceEqDiff, Nat.reduceAdd, Nat.reduceMul, Nat.reduceSub, Nat.reduceDiv, Nat.reduceLT, Nat.reduceLeDiff, Nat.reduceBEq, ne_eq, not_true_eq_false, not_false_eq_true, reduceCtorEq, if_true, if_false, eq_self, Nat.add_zero, Nat.zero_add, lit, lit_nn, I_nat, I_add, I_mul, I_sub, I_div, inb_t, I_ne, I_nn, nn_I, nn_lt, nn_le, lt_nn, le_nn, I_t, I_f, I_lt_t, I_lt_f, isb_0, isb_1, vz_0, vz_1, nn_nat, g5]
    · simp (disch := omega) only [ck1, bd1, bx1, bx2, aS_at, iS_at, upd_at, ↓reduceIte, Nat.reduceEqDiff, Nat.reduceAdd, Nat.reduceMul, Nat.reduceSub, Nat.reduceDiv, Nat.reduceLT, Nat.reduceLeDiff, Nat.reduceBEq, ne_eq, not_true_eq_false, not_false_eq_true, reduceCtorEq, if_true, if_false, eq_self, Nat.add_zero, Nat.zero_add, lit, lit_nn, I_nat, I_add, I_mul, I_sub, I_div, inb_t, I_ne, I_nn, nn_I, nn_lt, nn_le, lt_nn, le_nn, I_t, I_f, I_lt_t, I_lt_f, isb_0, isb_1, vz_0, vz_1, nn_nat]; exact g6

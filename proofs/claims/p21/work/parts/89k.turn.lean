/-! ===== one turn of the law's loop ===== -/
def LGoes (N n j : Nat) (e : ((St × St × St × St × St × St × St × St × Int32 × Int32) → Option Int32) → Option Int32) : Prop := ∃ cs cw ct cu cl cb cp cg, LInv N n cs cw ct cl cb cg ∧ ∀ rec, e rec = rec (cs, cw, ct, cu, cl, cb, cp, cg, I 1, I (j + 1))
theorem LGoes.of {N n j : Nat} {e e' : ((St × St × St × St × St × St × St × St × Int32 × Int32) → Option Int32) → Option Int32} (g : LGoes N n j e') (h : ∀ rec, e rec = e' rec) : LGoes N n j e := by
  obtain ⟨cs, cw, ct, cu, cl, cb, cp, cg, h1, h2⟩ := g
  exact ⟨cs, cw, ct, cu, cl, cb, cp, cg, h1, fun rec => by rw [h rec, h2 rec]⟩
theorem LGoes.up {N M n j : Nat} {e : ((St × St × St × St × St × St × St × St × Int32 × Int32) → Option Int32) → Option Int32} (g : LGoes N n j e) (h1 : N ≤ M) (h2 : M ≤ 100000) : LGoes M n j e := by
  obtain ⟨cs, cw, ct, cu, cl, cb, cp, cg, h3, h4⟩ := g
  exact ⟨cs, cw, ct, cu, cl, cb, cp, cg, h3.up h1 h2, h4⟩
theorem go_572 {N n L : Nat} {xs : Nat → Int32} {cs cw ct cu cl cb cp cg : St} (h : LInv N n cs cw ct cl cb cg) (hN : N + 2 ≤ 100000) (hn : n ≤ 90) (j : Nat) : LGoes N n j (fun rec => fL_law_J572 L xs rec cs cw ct cu cl cb cp cg (I 1) (I j)) := by
  obtain ⟨ct', cu', h1, h2⟩ := law_look (L := L) (xs := xs) (cu := cu) (cp := cp) h hN hn j
  exact ⟨cs, cw, ct', cu', cl, cb, cp, cg, h1, h2⟩
theorem go_port {N n L : Nat} {xs : Nat → Int32} {cs cw ct cu cl cb cp cg : St} {K x y : Int32} (hN : N + 2 ≤ 100000) (hn : n + 1 ≤ 90) (j : Nat)
    (h : ∃ cs' cw' ct' cl' cb' cp' cg', fL_isPort cs cw ct cl cb cp cg K x y = some (I 1, cs', cw', ct', cl', cb', cp', cg') ∧ LInv N (n + 1) cs' cw' ct' cl' cb' cg') :
    LGoes N (n + 1) j (fun rec => bd (fL_isPort cs cw ct cl cb cp cg K x y) fun q445 => fL_law_J572 L xs rec (q445.2.1) (q445.2.2.1) (q445.2.2.2.1) cu (q445.2.2.2.2.1) (q445.2.2.2.2.2.1) (q445.2.2.2.2.2.2.1) (q445.2.2.2.2.2.2.2) q445.1 (I j)) := by
  obtain ⟨cs', cw', ct', cl', cb', cp', cg', e, h1⟩ := h
  refine (go_572 (L := L) (xs := xs) (cu := cu) (cp := cp') h1 hN hn j).of (fun rec => ?_)
  show bd _ _ = _
  rw [e, bd1]
theorem go_sent {N n L : Nat} {xs : Nat → Int32} {cs cw ct cu cl cb cp cg : St} {x y : Int32} (hN : N + 2 ≤ 100000) (hn : n + 1 ≤ 90) (j : Nat)
    (h : ∃ cs' cw' ct' cl' cb' cp' cg', fL_isSent cs cw ct cl cb cp cg x y = some (I 1, cs', cw', ct', cl', cb', cp', cg') ∧ LInv N (n + 1) cs' cw' ct' cl' cb' cg') :
    LGoes N (n + 1) j (fun rec => bd (fL_isSent cs cw ct cl cb cp cg x y) fun q445 => fL_law_J572 L xs rec (q445.2.1) (q445.2.2.1) (q445.2.2.2.1) cu (q445.2.2.2.2.1) (q445.2.2.2.2.2.1) (q445.2.2.2.2.2.2.1) (q445.2.2.2.2.2.2.2) q445.1 (I j)) := by
  obtain ⟨cs', cw', ct', cl', cb', cp', cg', e, h1⟩ := h
  refine (go_572 (L := L) (xs := xs) (cu := cu) (cp := cp') h1 hN hn j).of (fun rec => ?_)
  show bd _ _ = _
  rw [e, bd1]
theorem go_beat {N n L : Nat} {xs : Nat → Int32} {cs cw ct cu cl cb cp cg : St} (h : LInv N n cs cw ct cl cb cg) (hN : N + 62 ≤ 100000) (hn : n + 1 ≤ 90) (j : Nat) {b : Nat} (h1 : 1 ≤ b) (h2 : b ≤ 30) :
    LGoes (N + 60) (n + 1) j (fun rec => fL_law_J541 L xs rec cs cw ct cu cl cb cp cg (I j) (I b)) := by
  obtain ⟨cs', ct', cb', e, h3⟩ := law_beat h (by omega) h1 h2
  have n2 : (2 : Int32).toNatClampNeg = 2 := by decide
  have i2 : inb 2 6 = true := by decide
  refine (go_572 (L := L) (xs := xs) (cu := cu) (cp := cp) h3 (by omega) hn j).of (fun rec => ?_)
  unfold fL_law_J541
  rw [e, n2, i2, ck1, ck1]
  show ck true _ = _
  rw [ck1, if_pos (by simp only [ck1, bd1, bx1, bx2, aS_at, iS_at, upd_at, ↓reduceIte, Nat.reduceEqDiff, Nat.reduceAdd, Nat.reduceMul, Nat.reduceSub, Nat.reduceDiv, Nat.reduceLT, Nat.reduceLeDiff, Nat.reduceBEq, ne_eq, not_true_eq_false, not_false_eq_true, reduceCtorEq, if_true, if_false, eq_self, Nat.add_zero, Nat.zero_add, lit, lit_nn, I_nat, I_add, I_mul, I_sub, I_div, inb_t, I_ne, I_nn, nn_I, nn_lt, nn_le, lt_nn, le_nn, I_t, I_f, I_lt_t, I_lt_f, isb_0, isb_1, vz_0, vz_1, nn_nat])]
  rfl
theorem go_limit {N n L : Nat} {xs : Nat → Int32} {cs cw ct cu cl cb cp cg : St} (h : LInv N n cs cw ct cl cb cg) (hN : N + 2 ≤ 100000) (hn : n + 1 ≤ 90) (j : Nat) {q : Nat} (h1 : 1 ≤ q) (h2 : q ≤ 100) :
    LGoes N (n + 1) j (fun rec => bn (fX5_limit cs (I q)) <| fun q472 => ck (inb 5 6) <| if q472.1 = (cg 4 (5 : Int32).toNatClampNeg) then (fL_law_J487 L xs rec (q472.2) cw ct cu cl cb cp cg (I j) (I q) 1) else (fL_law_J487 L xs rec (q472.2) cw ct cu cl cb cp cg (I j) (I q) 0)) := by
  obtain ⟨cs', e, h3⟩ := law_limit h h1 h2
  have n5 : (5 : Int32).toNatClampNeg = 5 := by decide
  have i5 : inb 5 6 = true := by decide
  refine (go_572 (L := L) (xs := xs) (cu := cu) (cp := cp) h3 hN hn j).of (fun rec => ?_)
  show bn _ _ = _
  rw [e, n5]
  show ck (inb 5 6) _ = _
  rw [i5, ck1, if_pos rfl]
  unfold fL_law_J487
  rw [i5, ck1]
  rfl
theorem go_301 {L j : Nat} {xs : Nat → Int32} (hL : L ≤ 260) (hj : j < 64) {cs cw ct cu cl cb cp cg : St} (h : LInv (60 * j) j cs cw ct cl cb cg) {y : Nat} (hy : y < 30) :
    LGoes (60 * (j + 1)) (j + 1) j (fun rec => fL_law_J301 L xs rec cs cw ct cu cl cb cp cg (I j) (I y)) := by
  obtain ⟨a, ha, ea⟩ := part_eval L xs hL (show 3 * j + 1 < 1000 by omega) (show 0 < 90000 by omega) (by omega)
  obtain ⟨b, hb, eb⟩ := part_eval L xs hL (show 3 * j + 2 < 1000 by omega) (show 0 < 60000 by omega) (by omega)
  have m3 : (3 : Int32) * I j = I (3 * j) := I_mul 3 j
  have e1 : (3 : Int32) * I j + 1 = I (3 * j + 1) := by rw [m3]; exact I_add _ 1
  have e2 : (3 : Int32) * I j + 2 = I (3 * j + 2) := by rw [m3]; exact I_add _ 2
  have ea : fL_part L xs (I (3 * j + 1)) 90000 = some (I a) := ea
  have eb : fL_part L xs (I (3 * j + 2)) 60000 = some (I b) := eb
  have le : ∀ k, k < 2147483648 → (I k ≤ I y ↔ k ≤ y) := fun k hk => by rw [I_le hk (by omega)]
  have ha' : a < 2147483648 := by omega
  have hb' : b < 2147483648 := by omega
  have up : ∀ {e}, LGoes (60 * j) (j + 1) j e → LGoes (60 * (j + 1)) (j + 1) j e := fun g => g.up (by omega) (by omega)
  have m100 : 1 + (I a - I a / 100 * 100) = I (1 + a % 100) := by rw [show (100 : Int32) = I 100 from rfl, mod_I ha' (by omega)]; exact I_add 1 _
  have m4 : I a - I a / 4 * 4 = I (a % 4) := by rw [show (4 : Int32) = I 4 from rfl, mod_I ha' (by omega)]
  have m5 : 1 + (I a - I a / 5 * 5) = I (1 + a % 5) := by rw [mod5 ha']; exact I_add 1 _
  have bb3 : I b - I b / 3 * 3 = I (b % 3) := by rw [show (3 : Int32) = I 3 from rfl, mod_I hb' (by omega)]
  by_cases c5 : 5 ≤ y
  · have d5 : (5 : Int32) ≤ I y := (le 5 (by omega)).mpr c5
    by_cases c9 : 9 ≤ y
    · have d9 : (9 : Int32) ≤ I y := (le 9 (by omega)).mpr c9
      by_cases c16 : 16 ≤ y
      · have d16 : (16 : Int32) ≤ I y := (le 16 (by omega)).mpr c16
        by_cases e16 : y = 16
        · subst e16
          refine up ((go_limit (L := L) (xs := xs) (cu := cu) (cp := cp) h (by omega) (by omega) j (q := 1 + a % 100) (by omega) (by omega)).of fun rec => ?_)
          unfold fL_law_J301
          rw [e1, e2, ea, eb, bd1, bd1, if_pos d5, if_pos d9, if_pos d16, if_pos (show I 16 = 16 from rfl), m100]
        · have n16 : ¬ I y = 16 := by rw [lit, I_inj (by omega) (by omega)]; exact e16
          by_cases c23 : 23 ≤ y
          · have d23 : (23 : Int32) ≤ I y := (le 23 (by omega)).mpr c23
            have g : ∀ q, 1 ≤ q → q ≤ 30 → LGoes (60 * (j + 1)) (j + 1) j (fun rec => fL_law_J541 L xs rec cs cw ct cu cl cb cp cg (I j) (I q)) := by
              intro q h1 h2
              have g := go_beat (L := L) (xs := xs) (cu := cu) (cp := cp) h (by omega) (by omega) j h1 h2
              rw [show 60 * j + 60 = 60 * (j + 1) by omega] at g
              exact g
            by_cases a4 : I (a % 4) = 0
            · refine (g 20 (by omega) (by omega)).of fun rec => ?_
              unfold fL_law_J301
              rw [e1, e2, ea, eb, bd1, bd1, if_pos d5, if_pos d9, if_pos d16, if_neg n16, if_pos d23, m4, if_pos a4]
              rfl
            · refine (g (1 + a % 5) (by omega) (by omega)).of fun rec => ?_
              unfold fL_law_J301
              rw [e1, e2, ea, eb, bd1, bd1, if_pos d5, if_pos d9, if_pos d16, if_neg n16, if_pos d23, m4, if_neg a4, m5]
          · have d23 : ¬ (23 : Int32) ≤ I y := fun z => c23 ((le 23 (by omega)).mp z)
            refine up ((go_sent (L := L) (xs := xs) (cu := cu) (x := I a) (y := I b) (by omega) (by omega) j (lp_sent (cp := cp) h (by omega) (by omega) ha' hb')).of fun rec => ?_)
            unfold fL_law_J301
            rw [e1, e2, ea, eb, bd1, bd1, if_pos d5, if_pos d9, if_pos d16, if_neg n16, if_neg d23]
      · have d16 : ¬ (16 : Int32) ≤ I y := fun z => c16 ((le 16 (by omega)).mp z)
        have s7 : I y - 7 = I (y - 7) := I_sub (show 7 ≤ y by omega)
        have go : ∀ K, (∃ cs' cw' ct' cl' cb' cp' cg', fL_isPort cs cw ct cl cb cp cg K (I a) (I b) = some (I 1, cs', cw', ct', cl', cb', cp', cg') ∧ LInv (60 * j) (j + 1) cs' cw' ct' cl' cb' cg') → LGoes (60 * (j + 1)) (j + 1) j (fun rec => fL_law_J441 L xs rec cs cw ct cu cl cb cp cg (I j) (I a) (I b) K) := fun K hk =>
          up ((go_port (L := L) (xs := xs) (cu := cu) (by omega) (by omega) j hk).of fun rec => rfl)
        by_cases y15 : y = 15
        · subst y15
          refine (go 3 (lp_rank h ha' hb')).of fun rec => ?_
          unfold fL_law_J301
          rw [e1, e2, ea, eb, bd1, bd1, if_pos d5, if_pos d9, if_neg d16, if_neg (by decide)]
        · by_cases y12 : y = 12
          · subst y12
            by_cases b3 : I (b % 3) ≤ 0
            · refine (go 5 (lp_guard h ha' hb')).of fun rec => ?_
              unfold fL_law_J301
              rw [e1, e2, ea, eb, bd1, bd1, if_pos d5, if_pos d9, if_neg d16, if_pos (by decide), if_pos (by decide), bb3, if_pos b3]
              rfl
            · refine (go 4 (lp_shut h ha')).of fun rec => ?_
              unfold fL_law_J301
              rw [e1, e2, ea, eb, bd1, bd1, if_pos d5, if_pos d9, if_neg d16, if_pos (by decide), if_pos (by decide), bb3, if_neg b3]
          · have d7 : I (y - 7) ≤ I 7 := by rw [I_le (by omega) (by omega)]; omega
            refine (go (I y - 7) ?_).of fun rec => ?_
            · rcases (show y = 9 ∨ y = 10 ∨ y = 11 ∨ y = 13 ∨ y = 14 by omega) with rfl | rfl | rfl | rfl | rfl
              · exact lp_free h ha'
              · exact lp_rank h ha' hb'
              · exact lp_shut h ha'
              · exact lp_plain h ha' hb'
              · exact lp_trunk h ha' hb'
            · unfold fL_law_J301
              rw [e1, e2, ea, eb, bd1, bd1, if_pos d5, if_pos d9, if_neg d16, s7, if_pos (show I (y - 7) ≤ 7 from d7), if_neg (by rw [lit, I_inj (by omega) (by omega)]; omega)]
              rfl
    · have d9 : ¬ (9 : Int32) ≤ I y := fun z => c9 ((le 9 (by omega)).mp z)
      refine up ((go_port (L := L) (xs := xs) (cu := cu) (K := 1) (x := I a) (y := I b) (by omega) (by omega) j (lp_house (cp := cp) h ha' hb')).of fun rec => ?_)
      unfold fL_law_J301
      rw [e1, e2, ea, eb, bd1, bd1, if_pos d5, if_neg d9]
  · have d5 : ¬ (5 : Int32) ≤ I y := fun z => c5 ((le 5 (by omega)).mp z)
    refine up ((go_port (L := L) (xs := xs) (cu := cu) (K := 0) (x := I a) (y := I b) (by omega) (by omega) j (lp_wire (cp := cp) h ha' hb')).of fun rec => ?_)
    unfold fL_law_J301
    rw [e1, e2, ea, eb, bd1, bd1, if_neg d5]
theorem go_turn {L j : Nat} {xs : Nat → Int32} (hL : L ≤ 260) (hj : j < 64) {cs cw ct cu cl cb cp cg : St} (h : LInv (60 * j) j cs cw ct cl cb cg) :
    LGoes (60 * (j + 1)) (j + 1) j (fun rec => fL_law_S268 L xs rec cs cw ct cu cl cb cp cg (I 1) (I j)) := by
  have d64 : ¬ (64 : Int32) ≤ I j := fun z => by
    have := Eq.mp (I_le (show 64 < 2147483648 by omega) (show j < 2147483648 by omega)) z
    omega
  by_cases c8 : 8 ≤ j
  · obtain ⟨y, hy, ey⟩ := part_eval L xs hL (show 3 * j < 1000 by omega) (show 0 < 30 by omega) (by omega)
    have m3 : (3 : Int32) * I j = I (3 * j) := I_mul 3 j
    have ey : fL_part L xs (I (3 * j)) 30 = some (I y) := ey
    refine (go_301 (xs := xs) (cu := cu) (cp := cp) hL hj h hy).of fun rec => ?_
    unfold fL_law_S268
    rw [if_neg d64, if_neg z10, if_pos (show (8 : Int32) ≤ I j from Eq.mpr (I_le (show 8 < 2147483648 by omega) (show j < 2147483648 by omega)) c8), m3, ey, bd1]
  · refine (go_301 (xs := xs) (cu := cu) (cp := cp) hL hj h (show 0 < 30 by omega)).of fun rec => ?_
    unfold fL_law_S268
    rw [if_neg d64, if_neg z10, if_neg (show ¬ (8 : Int32) ≤ I j from fun z => c8 (Eq.mp (I_le (show 8 < 2147483648 by omega) (show j < 2147483648 by omega)) z))]
    rfl
/-- the law's loop from a state that holds -/
theorem law_loop {L : Nat} {xs : Nat → Int32} (hL : L ≤ 260) : ∀ (m F j : Nat), j + m = 64 → m < F → ∀ {cs cw ct cu cl cb cp cg : St}, LInv (60 * j) j cs cw ct cl cb cg →
    loopN (fun k a => fL_law_S268 L xs k (a.1) (a.2.1) (a.2.2.1) (a.2.2.2.1) (a.2.2.2.2.1) (a.2.2.2.2.2.1) (a.2.2.2.2.2.2.1) (a.2.2.2.2.2.2.2.1) (a.2.2.2.2.2.2.2.2.1) (a.2.2.2.2.2.2.2.2.2)) F (cs, cw, ct, cu, cl, cb, cp, cg, I 1, I j) = some (I 1) := by
  intro m
  induction m with
  | zero =>
    intro F j e hF cs cw ct cu cl cb cp cg h
    obtain ⟨F, rfl⟩ : ∃ f, F = f + 1 := ⟨F - 1, by omega⟩
    have j64 : j = 64 := by omega
    subst j64
    show fL_law_S268 L xs _ cs cw ct cu cl cb cp cg (I 1) (I 64) = some (I 1)
    unfold fL_law_S268
    rw [if_pos (by decide)]
  | succ m ih =>
    intro F j e hF cs cw ct cu cl cb cp cg h
    obtain ⟨F, rfl⟩ : ∃ f, F = f + 1 := ⟨F - 1, by omega⟩
    obtain ⟨cs', cw', ct', cu', cl', cb', cp', cg', h1, h2⟩ := go_turn (L := L) (xs := xs) (cu := cu) (cp := cp) hL (show j < 64 by omega) h
    refine (h2 _).trans ?_
    exact ih F (j + 1) (by omega) (by omega) h1

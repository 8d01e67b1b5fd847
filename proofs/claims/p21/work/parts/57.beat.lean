/-! ===== one beat, on both sides ===== -/
theorem Rel.now {N : Nat} {cs cw ct cl cb mm : St} (h : Rel N cs cw ct cl cb mm) (hN : N < 100000) : ∃ n, n ≤ N ∧ mm 0 0 = I n ∧ ct 9 0 = I n ∧ Rel (N + 1) cs cw (iS ct 9 (I (n + 1))) cl cb (iS mm 0 (I (n + 1))) := by
  obtain ⟨n, hn, en⟩ := h.2.2.2.2.2.1.2.1
  have ec : ct 9 0 = I n := (h.2.2.2.2.2.2.2.2.2.2.2.2.2.2.2.2.1.1).trans en
  obtain ⟨p1, p2, p3, p4, p5, p6, p7, p8, p9, c1, c2, c3, c4, c5, c6, c7, c8, c9, c10⟩ := h.mono (show N ≤ N + 1 by omega) (by omega)
  exact ⟨n, hn, en, ec, p1, p2, p3, p4, p5, ⟨p6.1, ⟨n + 1, by omega, rfl⟩, p6.2.2⟩, p7, p8, p9, c1, c2, c3, c4, c5, c6, c7, ⟨rfl, c8.2⟩, c9, c10⟩
theorem beat_one {N : Nat} {cs cw ct cl cb mm : St} (h : Rel N cs cw ct cl cb mm) (hN : N + 2 ≤ 100000) : ∃ cs' ct' cb' mm', fX3_pass ct cw = some ct' ∧ fX5_passBeat cs cw ct cb = some (cs', ct', cb') ∧ fX6_beats mm = some mm' ∧ Rel (N + 1 + 1) cs' cw ct' cl cb' mm' ∧ Fb mm' mm ∧ Fresh mm' ∧ FWs mm' := by
  obtain ⟨n, hn, en, ec, h1⟩ := h.now (by omega)
  obtain ⟨f10, f11, f12, g20, g21, g22, t1, t2, t3⟩ := tell_both h1
  have h2 : Rel (N + 1) cs cw (p3 (iS ct 9 (I (n + 1))) 10 11 12 f10 f11 f12) cl cb (p3 (iS mm 0 (I (n + 1))) 20 21 22 g20 g21 g22) := h1
  have ta : TellAll (p3 (iS ct 9 (I (n + 1))) 10 11 12 f10 f11 f12) (p3 (iS mm 0 (I (n + 1))) 20 21 22 g20 g21 g22) := t1
  obtain ⟨ctA, cbA, mmA, h3, tA, fA, bA, eA1, eA2⟩ := guard_both h2 ta
  obtain ⟨V, n1, n2, q1, q2, hB, g1, g2, hsh⟩ := tell_data h3 tA
  obtain ⟨ctB, mmB, eB1, eB2, xB1, xB2, xB3, xB4⟩ := hold_both n1 n2 q1 q2 hB g1 g2
  obtain ⟨ctC, mmC, eC1, eC2, h4, sC, c13, bC, frC, fwC⟩ := turn_all h3 (by omega) n1 n2 q1 q2 hB hsh xB1 xB2 xB3 xB4
  obtain ⟨f, g, sD, eD1, eD2⟩ := spread_both h4 sC
  have h5 : Rel (N + 1 + 1) cs cw (pF ctC 14 f) cl cbA (pF mmC 39 g) := h4
  have s5 : Sp ((pF ctC 14 f) 14) ((pF mmC 39 g) 39) := sD
  -- the tables, with the tree as it is ahead of the storms
  obtain ⟨cbE, e, eE1, eE2, tE⟩ := empty_both (f := f) h5.2.2.2.2.2.2.2.2.2.2.2.2.2.2.2.2.2.2 sD
  have h6 : Rel (N + 1 + 1) cs cw (pF ctC 14 f) cl cbE (pF (pF mmC 39 g) 24 e) := h5.tab (fun q hq => by rw [pF_at, if_neg (by omega)]) tE
  obtain ⟨cbF, mmF, eF1, eF2, fF, tF⟩ := old_both h6.2.2.2.2.2.2.2.2.2.2.2.2.2.2.2.2.2.2
  have h7 : Rel (N + 1 + 1) cs cw (pF ctC 14 f) cl cbF mmF := h6.tab fF tF
  obtain ⟨ctG, mmG, csG, h8, xG1, xG2, xG3, bG, wG, eG1, eG2⟩ := storm_both h7
  have pass : fX3_pass ct cw = some ctG := by
    have a1 : fX3_pass_L20 cw ctA (I 0) = some ctG := by
      rw [eB1, eC1]
      simp (disch := omega) only [fX3_pass_J63, eD1, eG1, ck1, bd1, bx1, bx2, aS_at, iS_at, upd_at, ↓reduceIte, Nat.reduceEqDiff, Nat.reduceAdd, Nat.reduceMul, Nat.reduceSub, Nat.reduceDiv, Nat.reduceLT, Nat.reduceLeDiff, Nat.reduceBEq, ne_eq, not_true_eq_false, not_false_eq_true, reduceCtorEq, if_true, if_false, eq_self, Nat.add_zero, Nat.zero_add, lit, lit_nn, I_nat, I_add, I_mul, I_sub, I_div, inb_t, I_ne, I_nn, nn_I, nn_lt, nn_le, lt_nn, le_nn, I_t, I_f, I_lt_t, I_lt_f, isb_0, isb_1, vz_0, vz_1, nn_nat]
    unfold fX3_pass
    rw [ec, show I n + (1 : Int32) = I (n + 1) from I_add n 1, t2, bd1, eA1, bd1, lit]
    exact a1
  have k13 : ctG 13 = ctA 13 := by
    rw [xG3 13 (by omega) (by omega), pF_at, if_neg (by omega)]
    exact c13
  obtain ⟨cs', y1, y2, y3⟩ := chain_run (cw := cw) (ct := ctG) (cs := cs) (cb := cb) (d := cbA) (by rw [k13]; exact fA)
  have k14 : ctG 14 = f := (xG3 14 (by omega) (by omega)).trans (by rw [pF_at, if_pos rfl])
  have now2 : ctG 9 0 = (pF (pF mmC 39 g) 24 e) 0 0 := by
    rw [xG3 9 (by omega) (by omega)]
    exact h6.2.2.2.2.2.2.2.2.2.2.2.2.2.2.2.2.1.1
  have bb : Fb mmG mm := by
    refine Fb.trans (fun q hq => bG q (by omega) (by omega) (by omega) (by omega)) ((Fm.fb fF).trans ?_)
    refine (Fb.pF _ _ _ (by omega)).trans ((Fb.pF _ _ _ (by omega)).trans (bC.trans (bA.trans ?_)))
    exact ((Fb.pF _ _ _ (by omega)).trans (Fb.pF _ _ _ (by omega))).trans ((Fb.pF _ _ _ (by omega)).trans (Fb.iS _ _ _ (by omega)))
  have ref : fX6_beats mm = some mmG := by
    have a1 : fX6_beats_L20 mmA (I 0) = some mmG := by
      rw [eB2]
      unfold fX6_beats_J37
      rw [eC2]
      unfold fX6_opens_J183
      rw [eD2, bd1, lit, eE2, bd1, eF2]
      exact eG2
    unfold fX6_beats
    rw [en, show I n + (1 : Int32) = I (n + 1) from I_add n 1, t3, bd1, eA2, bd1, lit]
    exact a1
  refine ⟨cs', ctG, cbF, mmG, pass, ?_, ref, h8.floods ?_ ?_ ?_ ?_, bb, ?_, wG ?_⟩
  · have a1 : fX5_passBeat_L9 cw ctG cs cb (I 0) = some (cs', ctG, cbF) := by
      rw [y3, eE1 cs' cw ctG k14]
      simp (disch := omega) only [fX5_passBeat_J82, now2, eF1, ck1, bd1, bx1, bx2, aS_at, iS_at, upd_at, ↓reduceIte, Nat.reduceEqDiff, Nat.reduceAdd, Nat.reduceMul, Nat.reduceSub, Nat.reduceDiv, Nat.reduceLT, Nat.reduceLeDiff, Nat.reduceBEq, ne_eq, not_true_eq_false, not_false_eq_true, reduceCtorEq, if_true, if_false, eq_self, Nat.add_zero, Nat.zero_add, lit, lit_nn, I_nat, I_add, I_mul, I_sub, I_div, inb_t, I_ne, I_nn, nn_I, nn_lt, nn_le, lt_nn, le_nn, I_t, I_f, I_lt_t, I_lt_f, isb_0, isb_1, vz_0, vz_1, nn_nat]
    simp (disch := omega) only [fX5_passBeat, pass, a1, ck1, bd1, bx1, bx2, aS_at, iS_at, upd_at, ↓reduceIte, Nat.reduceEqDiff, Nat.reduceAdd, Nat.reduceMul, Nat.reduceSub, Nat.reduceDiv, Nat.reduceLT, Nat.reduceLeDiff, Nat.reduceBEq, ne_eq, not_true_eq_false, not_false_eq_true, reduceCtorEq, if_true, if_false, eq_self, Nat.add_zero, Nat.zero_add, lit, lit_nn, I_nat, I_add, I_mul, I_sub, I_div, inb_t, I_ne, I_nn, nn_I, nn_lt, nn_le, lt_nn, le_nn, I_t, I_f, I_lt_t, I_lt_f, isb_0, isb_1, vz_0, vz_1, nn_nat]
  · exact fun x hx => (y2 x hx).trans (xG2 x hx).symm
  · rw [y1 7 (by omega), xG1 7 (by omega)]
  · rw [y1 8 (by omega), xG1 8 (by omega)]
  · rw [y1 9 (by omega), xG1 9 (by omega)]
  · have k : ∀ q, q = 13 ∨ q = 16 ∨ q = 19 → mmG q = mmC q := fun q hq => by
      rw [bG q (by omega) (by omega) (by omega) (by omega), fF q (by omega), pF_at, if_neg (by omega), pF_at, if_neg (by omega)]
    intro j hj
    rw [k 13 (by omega), k 16 (by omega), k 19 (by omega)]
    exact frC j hj
  · have k : ∀ q, q < 16 → mmF q = mmC q := fun q hq => by
      rw [fF q (by omega), pF_at, if_neg (by omega), pF_at, if_neg (by omega)]
    intro x hx
    rw [k 3 (by omega), k 10 (by omega), k 12 (by omega), k 13 (by omega), k 14 (by omega)]
    exact fwC x hx

/-! ===== the law's start: its own rows, and the calls that throw ===== -/
theorem l39_loop (L : Nat) (xs : Nat → Int32) (cs cw ct cu cl cb cp b : St) : ∃ d : St, (∀ q, q ≠ 0 → d q = b q) ∧ (∀ x, x < 30 → d 0 x = nn) ∧ loopN (fun k a => fL_law_S39 L xs k cs cw ct cu cl cb cp (a.1) (a.2)) 1000 (b, I 0) = fL_law_J57 L xs cs cw ct cu cl cb cp d := by
  obtain ⟨Q, eQ⟩ : ∃ Q : Nat → St → Prop, Q = fun j d => (∀ q, q ≠ 0 → d q = b q) ∧ (∀ x, x < j → d 0 x = nn) := ⟨_, rfl⟩
  obtain ⟨d, hQ, hl⟩ := loop_up (step := fun k a => fL_law_S39 L xs k cs cw ct cu cl cb cp (a.1) (a.2)) (fun j (d : St) => (d, I j)) 30 Q (fun d => fL_law_J57 L xs cs cw ct cu cl cb cp d)
    (by
      intro j d hj hQ
      rw [eQ] at hQ
      obtain ⟨q1, q2⟩ := hQ
      refine ⟨aS d 0 (I j) (nn), ?_, fun rec => ?_⟩
      · rw [eQ]
        refine ⟨fun q z0 => ?_, fun x hx => ?_⟩
        · simp only [aS_at, z0, ↓reduceIte]
          exact q1 q z0
        · simp (disch := omega) only [ck1, bd1, bx1, bx2, aS_at, iS_at, upd_at, ↓reduceIte, Nat.reduceEqDiff, Nat.reduceAdd, Nat.reduceMul, Nat.reduceSub, Nat.reduceDiv, Nat.reduceLT, Nat.reduceLeDiff, Nat.reduceBEq, ne_eq, not_true_eq_false, not_false_eq_true, reduceCtorEq, if_true, if_false, eq_self, Nat.add_zero, Nat.zero_add, lit, lit_nn, I_nat, I_add, I_mul, I_sub, I_div, inb_t, I_ne, I_nn, nn_I, nn_lt, nn_le, lt_nn, le_nn, I_t, I_f, I_lt_t, I_lt_f, isb_0, isb_1, vz_0, vz_1, nn_nat]
          by_cases z : x = j
          · simp only [z, ↓reduceIte, and_self]
          · simp only [z, ↓reduceIte]
            exact q2 x (by omega)
      · simp (disch := omega) only [fL_law_S39, ck1, bd1, bx1, bx2, aS_at, iS_at, upd_at, ↓reduceIte, Nat.reduceEqDiff, Nat.reduceAdd, Nat.reduceMul, Nat.reduceSub, Nat.reduceDiv, Nat.reduceLT, Nat.reduceLeDiff, Nat.reduceBEq, ne_eq, not_true_eq_false, not_false_eq_true, reduceCtorEq, if_true, if_false, eq_self, Nat.add_zero, Nat.zero_add, lit, lit_nn, I_nat, I_add, I_mul, I_sub, I_div, inb_t, I_ne, I_nn, nn_I, nn_lt, nn_le, lt_nn, le_nn, I_t, I_f, I_lt_t, I_lt_f, isb_0, isb_1, vz_0, vz_1, nn_nat])
    (by
      intro d _ rec
      simp (disch := omega) only [fL_law_S39, ck1, bd1, bx1, bx2, aS_at, iS_at, upd_at, ↓reduceIte, Nat.reduceEqDiff, Nat.reduceAdd, Nat.reduceMul, Nat.reduceSub, Nat.reduceDiv, Nat.reduceLT, Nat.reduceLeDiff, Nat.reduceBEq, ne_eq, not_true_eq_false, not_false_eq_true, reduceCtorEq, if_true, if_false, eq_self, Nat.add_zero, Nat.zero_add, lit, lit_nn, I_nat, I_add, I_mul, I_sub, I_div, inb_t, I_ne, I_nn, nn_I, nn_lt, nn_le, lt_nn, le_nn, I_t, I_f, I_lt_t, I_lt_f, isb_0, isb_1, vz_0, vz_1, nn_nat])
    30 0 b 1000 (by omega) (by omega) (by rw [eQ]; exact ⟨fun _ _ => rfl, fun x hx => by omega⟩)
  rw [eQ] at hQ
  exact ⟨d, hQ.1, hQ.2, hl⟩
theorem l60_loop (L : Nat) (xs : Nat → Int32) (cs cw ct cu cl cb cp b : St) : ∃ d : St, (∀ q, q ≠ 2 → d q = b q) ∧ (∀ x, x < 10 → d 2 x = nn) ∧ loopN (fun k a => fL_law_S60 L xs k cs cw ct cu cl cb cp (a.1) (a.2)) 1000 (b, I 0) = fL_law_J79 L xs cs cw ct cu cl cb cp d := by
  obtain ⟨Q, eQ⟩ : ∃ Q : Nat → St → Prop, Q = fun j d => (∀ q, q ≠ 2 → d q = b q) ∧ (∀ x, x < j → d 2 x = nn) := ⟨_, rfl⟩
  obtain ⟨d, hQ, hl⟩ := loop_up (step := fun k a => fL_law_S60 L xs k cs cw ct cu cl cb cp (a.1) (a.2)) (fun j (d : St) => (d, I j)) 10 Q (fun d => fL_law_J79 L xs cs cw ct cu cl cb cp d)
    (by
      intro j d hj hQ
      rw [eQ] at hQ
      obtain ⟨q1, q2⟩ := hQ
      refine ⟨aS d 2 (I j) (nn), ?_, fun rec => ?_⟩
      · rw [eQ]
        refine ⟨fun q z0 => ?_, fun x hx => ?_⟩
        · simp only [aS_at, z0, ↓reduceIte]
          exact q1 q z0
        · simp (disch := omega) only [ck1, bd1, bx1, bx2, aS_at, iS_at, upd_at, ↓reduceIte, Nat.reduceEqDiff, Nat.reduceAdd, Nat.reduceMul, Nat.reduceSub, Nat.reduceDiv, Nat.reduceLT, Nat.reduceLeDiff, Nat.reduceBEq, ne_eq, not_true_eq_false, not_false_eq_true, reduceCtorEq, if_true, if_false, eq_self, Nat.add_zero, Nat.zero_add, lit, lit_nn, I_nat, I_add, I_mul, I_sub, I_div, inb_t, I_ne, I_nn, nn_I, nn_lt, nn_le, lt_nn, le_nn, I_t, I_f, I_lt_t, I_lt_f, isb_0, isb_1, vz_0, vz_1, nn_nat]
          by_cases z : x = j
          · simp only [z, ↓reduceIte, and_self]
          · simp only [z, ↓reduceIte]
            exact q2 x (by omega)
      · simp (disch := omega) only [fL_law_S60, ck1, bd1, bx1, bx2, aS_at, iS_at, upd_at, ↓reduceIte, Nat.reduceEqDiff, Nat.reduceAdd, Nat.reduceMul, Nat.reduceSub, Nat.reduceDiv, Nat.reduceLT, Nat.reduceLeDiff, Nat.reduceBEq, ne_eq, not_true_eq_false, not_false_eq_true, reduceCtorEq, if_true, if_false, eq_self, Nat.add_zero, Nat.zero_add, lit, lit_nn, I_nat, I_add, I_mul, I_sub, I_div, inb_t, I_ne, I_nn, nn_I, nn_lt, nn_le, lt_nn, le_nn, I_t, I_f, I_lt_t, I_lt_f, isb_0, isb_1, vz_0, vz_1, nn_nat])
    (by
      intro d _ rec
      simp (disch := omega) only [fL_law_S60, ck1, bd1, bx1, bx2, aS_at, iS_at, upd_at, ↓reduceIte, Nat.reduceEqDiff, Nat.reduceAdd, Nat.reduceMul, Nat.reduceSub, Nat.reduceDiv, Nat.reduceLT, Nat.reduceLeDiff, Nat.reduceBEq, ne_eq, not_true_eq_false, not_false_eq_true, reduceCtorEq, if_true, if_false, eq_self, Nat.add_zero, Nat.zero_add, lit, lit_nn, I_nat, I_add, I_mul, I_sub, I_div, inb_t, I_ne, I_nn, nn_I, nn_lt, nn_le, lt_nn, le_nn, I_t, I_f, I_lt_t, I_lt_f, isb_0, isb_1, vz_0, vz_1, nn_nat])
    10 0 b 1000 (by omega) (by omega) (by rw [eQ]; exact ⟨fun _ _ => rfl, fun x hx => by omega⟩)
  rw [eQ] at hQ
  exact ⟨d, hQ.1, hQ.2, hl⟩
theorem l82_loop (L : Nat) (xs : Nat → Int32) (cs cw ct cu cl cb cp b : St) : ∃ d : St, (∀ q, q ≠ 3 → d q = b q) ∧ (∀ x, x < 6 → d 3 x = I 8) ∧ loopN (fun k a => fL_law_S82 L xs k cs cw ct cu cl cb cp (a.1) (a.2)) 1000 (b, I 0) = fL_law_J102 L xs cs cw ct cu cl cb cp d := by
  obtain ⟨Q, eQ⟩ : ∃ Q : Nat → St → Prop, Q = fun j d => (∀ q, q ≠ 3 → d q = b q) ∧ (∀ x, x < j → d 3 x = I 8) := ⟨_, rfl⟩
  obtain ⟨d, hQ, hl⟩ := loop_up (step := fun k a => fL_law_S82 L xs k cs cw ct cu cl cb cp (a.1) (a.2)) (fun j (d : St) => (d, I j)) 6 Q (fun d => fL_law_J102 L xs cs cw ct cu cl cb cp d)
    (by
      intro j d hj hQ
      rw [eQ] at hQ
      obtain ⟨q1, q2⟩ := hQ
      refine ⟨aS d 3 (I j) (I 8), ?_, fun rec => ?_⟩
      · rw [eQ]
        refine ⟨fun q z0 => ?_, fun x hx => ?_⟩
        · simp only [aS_at, z0, ↓reduceIte]
          exact q1 q z0
        · simp (disch := omega) only [ck1, bd1, bx1, bx2, aS_at, iS_at, upd_at, ↓reduceIte, Nat.reduceEqDiff, Nat.reduceAdd, Nat.reduceMul, Nat.reduceSub, Nat.reduceDiv, Nat.reduceLT, Nat.reduceLeDiff, Nat.reduceBEq, ne_eq, not_true_eq_false, not_false_eq_true, reduceCtorEq, if_true, if_false, eq_self, Nat.add_zero, Nat.zero_add, lit, lit_nn, I_nat, I_add, I_mul, I_sub, I_div, inb_t, I_ne, I_nn, nn_I, nn_lt, nn_le, lt_nn, le_nn, I_t, I_f, I_lt_t, I_lt_f, isb_0, isb_1, vz_0, vz_1, nn_nat]
          by_cases z : x = j
          · simp only [z, ↓reduceIte, and_self]
          · simp only [z, ↓reduceIte]
            exact q2 x (by omega)
      · simp (disch := omega) only [fL_law_S82, ck1, bd1, bx1, bx2, aS_at, iS_at, upd_at, ↓reduceIte, Nat.reduceEqDiff, Nat.reduceAdd, Nat.reduceMul, Nat.reduceSub, Nat.reduceDiv, Nat.reduceLT, Nat.reduceLeDiff, Nat.reduceBEq, ne_eq, not_true_eq_false, not_false_eq_true, reduceCtorEq, if_true, if_false, eq_self, Nat.add_zero, Nat.zero_add, lit, lit_nn, I_nat, I_add, I_mul, I_sub, I_div, inb_t, I_ne, I_nn, nn_I, nn_lt, nn_le, lt_nn, le_nn, I_t, I_f, I_lt_t, I_lt_f, isb_0, isb_1, vz_0, vz_1, nn_nat])
    (by
      intro d _ rec
      simp (disch := omega) only [fL_law_S82, ck1, bd1, bx1, bx2, aS_at, iS_at, upd_at, ↓reduceIte, Nat.reduceEqDiff, Nat.reduceAdd, Nat.reduceMul, Nat.reduceSub, Nat.reduceDiv, Nat.reduceLT, Nat.reduceLeDiff, Nat.reduceBEq, ne_eq, not_true_eq_false, not_false_eq_true, reduceCtorEq, if_true, if_false, eq_self, Nat.add_zero, Nat.zero_add, lit, lit_nn, I_nat, I_add, I_mul, I_sub, I_div, inb_t, I_ne, I_nn, nn_I, nn_lt, nn_le, lt_nn, le_nn, I_t, I_f, I_lt_t, I_lt_f, isb_0, isb_1, vz_0, vz_1, nn_nat])
    6 0 b 1000 (by omega) (by omega) (by rw [eQ]; exact ⟨fun _ _ => rfl, fun x hx => by omega⟩)
  rw [eQ] at hQ
  exact ⟨d, hQ.1, hQ.2, hl⟩
theorem bxr_eq {α β : Type} {k : Nat} {g : α → Option (β ⊕ Nat)} : bx (some (.inr k)) g = some (.inr k) := rfl
theorem hxbr_eq {α β : Type} {k : Nat} {g : α → Option β} {h : Nat → Option β} : hxb (some (.inr k)) g h = h k := rfl
theorem th_limit (cs : St) : fX5_limit cs 0 = some (.inr 2) := by
  unfold fX5_limit fX5_needWithin
  rw [if_pos (by decide), bxr_eq]
theorem th_beat (cs cw ct cb : St) : fX5_beat cs cw ct cb 0 = some (.inr 2) := by
  unfold fX5_beat fX5_needWithin
  rw [if_pos (by decide), bxr_eq]
theorem th_holds1 (ct cb : St) : fX5_holds ct cb 6 0 = some (.inr 1) := by
  unfold fX5_holds fX5_needSwitch
  rw [if_neg (by decide), if_neg (by decide), bxr_eq]
theorem th_holds2 (ct cb : St) : fX5_holds ct cb 0 5 = some (.inr 2) := by
  unfold fX5_holds fX5_needSwitch
  rw [if_neg (by decide), if_pos (by decide), bx1, if_neg (by decide), if_neg (by decide), if_neg (by decide), if_neg (by decide), if_neg (by decide)]
theorem th_port1 (cs ct : St) : fX5_port cs ct 0 5 0 = some (.inr 1) := by
  unfold fX5_port fX5_needPort fX5_needSwitch
  rw [if_neg (by decide), if_pos (by decide), bx1, if_neg (by decide), if_neg (by decide), bxr_eq]
theorem th_port2 (cs ct : St) : fX5_port cs ct 0 0 4 = some (.inr 2) := by
  unfold fX5_port fX5_needPort fX5_needSwitch fX5_spotOf
  rw [if_neg (by decide), if_pos (by decide), bx1, if_neg (by decide), if_pos (by decide), bx1, bd1, if_neg (by decide), if_neg (by decide), if_neg (by decide), if_neg (by decide)]
theorem th_table (cb : St) : fX5_table cb 0 4 0 = some (.inr 1) := by
  unfold fX5_table fX5_needSwitch fX5_needLane
  rw [if_neg (by decide), if_pos (by decide), bx1, if_neg (by decide), if_neg (by decide), bxr_eq]
theorem th_got (cs : St) : fX5_got cs 10 0 = some (.inr 1) := by
  unfold fX5_got fX5_needHouse
  rw [if_neg (by decide), if_neg (by decide), bxr_eq]
theorem do_8 (cs cw ct cl cb cp : St) : fL_does cs cw ct cl cb cp 8 0 0 0 0 0 = some (-2000, cs, cw, ct, cl, cb, cp) := by
  unfold fL_does
  repeat rw [if_neg (by decide)]
  rw [if_pos rfl, th_limit, hxbr_eq, if_neg (by decide), if_pos rfl]
theorem do_9 (cs cw ct cl cb cp : St) : fL_does cs cw ct cl cb cp 9 0 0 0 0 0 = some (-2000, cs, cw, ct, cl, cb, cp) := by
  unfold fL_does
  repeat rw [if_neg (by decide)]
  rw [if_pos rfl, th_beat, hxbr_eq, if_neg (by decide), if_pos rfl]
theorem do_11a (cs cw ct cl cb cp : St) : fL_does cs cw ct cl cb cp 11 6 0 0 0 0 = some (-3000, cs, cw, ct, cl, cb, cp) := by
  unfold fL_does
  repeat rw [if_neg (by decide)]
  rw [if_pos rfl, th_holds1, hxbr_eq, if_pos rfl]
theorem do_11b (cs cw ct cl cb cp : St) : fL_does cs cw ct cl cb cp 11 0 5 0 0 0 = some (-2000, cs, cw, ct, cl, cb, cp) := by
  unfold fL_does
  repeat rw [if_neg (by decide)]
  rw [if_pos rfl, th_holds2, hxbr_eq, if_neg (by decide), if_pos rfl]
theorem do_12a (cs cw ct cl cb cp : St) : fL_does cs cw ct cl cb cp 12 0 5 0 0 0 = some (-3000, cs, cw, ct, cl, cb, cp) := by
  unfold fL_does
  repeat rw [if_neg (by decide)]
  rw [if_pos rfl, th_port1, hxbr_eq, if_pos rfl]
theorem do_12b (cs cw ct cl cb cp : St) : fL_does cs cw ct cl cb cp 12 0 0 4 0 0 = some (-2000, cs, cw, ct, cl, cb, cp) := by
  unfold fL_does
  repeat rw [if_neg (by decide)]
  rw [if_pos rfl, th_port2, hxbr_eq, if_neg (by decide), if_pos rfl]
theorem do_13 (cs cw ct cl cb cp : St) : fL_does cs cw ct cl cb cp 13 0 4 0 0 0 = some (-3000, cs, cw, ct, cl, cb, cp) := by
  unfold fL_does
  repeat rw [if_neg (by decide)]
  rw [if_pos rfl, th_table, hxbr_eq, if_pos rfl]
theorem do_14 (cs cw ct cl cb cp : St) : fL_does cs cw ct cl cb cp 14 10 0 0 0 0 = some (-3000, cs, cw, ct, cl, cb, cp) := by
  unfold fL_does
  repeat rw [if_neg (by decide)]
  rw [if_pos rfl, th_got, hxbr_eq, if_pos rfl]
/-- the new floor's states -/
theorem init_law : ∃ (cs cw ct cl cb cp mm : St), fX5_init = some (cs, cw, ct, ct, cl, cb, cp) ∧ Rel 0 cs cw ct cl cb mm ∧ cs = iS st0 9 (I 20) ∧ (∀ k, k < 30 → cw 0 k = nn ∧ cw 2 k = nn) ∧ (∀ q, q ≠ 0 → q ≠ 2 → q ≠ 4 → q ≠ 5 → cw q = st0 q) ∧ (∀ x, x < 10 → cw 4 x = nn) ∧ (∀ x, x < 6 → cw 5 x = I 8) ∧ (∀ s, s < 6 → ct 1 s = I s ∧ ct 4 s = nn) ∧ (∀ q, q ≠ 1 → q ≠ 4 → ct q = st0 q) ∧ (∀ x, x < 180 → cb 0 x = nn) := by
  obtain ⟨cs', cw', ct', cu', cl', cb', cp', mm, ei, -, hr⟩ := init_rel
  obtain ⟨cl, l1, l2, l3⟩ := i0_loop st0
  obtain ⟨cb, b1, b2, b3⟩ := i2_loop st0
  obtain ⟨ct, t1, t2, t3⟩ := i3_loop st0
  obtain ⟨wa, wa1, wa2, wa3⟩ := i4a_loop st0
  obtain ⟨wb, wb1, wb2, wb3⟩ := i4b_loop wa
  obtain ⟨cw, wc1, wc2, wc3⟩ := i4c_loop wb
  have e0 : fX0_init = some cl := l3
  have e2 : fX2_init = some cb := b3
  have e3 : fX3_init = some ct := t3
  have e4 : fX4_init = some cw := wa3.trans (wb3.trans wc3)
  have ex : fX5_init = some (iS st0 9 (I 20), cw, ct, ct, cl, cb, st0) := by
    simp only [fX5_init, fX1_init, e0, e2, e3, e4, bd1]; rfl
  rw [ex] at ei
  cases ei
  refine ⟨_, _, _, _, _, _, mm, ex, hr, rfl, fun x hx => ?_, fun q a b c d => ?_, fun x hx => ?_, wc2, t2, t1, b2⟩
  · rw [wc1 0 (by omega), wb1 0 (by omega), wc1 2 (by omega), wb1 2 (by omega)]; exact wa2 x hx
  · rw [wc1 q d, wb1 q c, wa1 q a b]
  · rw [wc1 4 (by omega)]; exact wb2 x hx
theorem law_true (L : Nat) (xs : Nat → Int32) (hL : L ≤ 260) : ∃ (cs cw ct cu cl cb cp : St), fX5_init = some (cs, cw, ct, cu, cl, cb, cp) ∧ fL_law L xs cs cw ct cu cl cb cp st0 = some 1 := by
  obtain ⟨cs, cw, ct, cl, cb, cp, mm, ei, hr, ecs, w0, w1, w4, w5, t1, t2, b0⟩ := init_law
  refine ⟨cs, cw, ct, ct, cl, cb, cp, ei, ?_⟩
  have Z : ∀ q x, st0 q x = I 0 := fun _ _ => rfl
  have w3 : ∀ k, k < 30 → cw 3 k = I 0 := fun k _ => by rw [w1 3 (by omega) (by omega) (by omega) (by omega)]; rfl
  have c5 : ∀ k, ct 5 k = I 0 := fun k => by rw [t2 5 (by omega) (by omega)]; rfl
  have c6 : ∀ k, ct 6 k = I 0 := fun k => by rw [t2 6 (by omega) (by omega)]; rfl
  have c7 : ∀ k, ct 7 k = I 0 := fun k => by rw [t2 7 (by omega) (by omega)]; rfl
  have c8 : ∀ k, ct 8 k = I 0 := fun k => by rw [t2 8 (by omega) (by omega)]; rfl
  obtain ⟨ga, ga1, ga2, ga3⟩ := l39_loop L xs cs cw ct ct cl cb cp st0
  obtain ⟨gb, gb1, gb2, gb3⟩ := l60_loop L xs cs cw ct ct cl cb cp ga
  obtain ⟨gc, gc1, gc2, gc3⟩ := l82_loop L xs cs cw ct ct cl cb cp gb
  have e1 : fL_law L xs cs cw ct ct cl cb cp st0 = fL_law_J102 L xs cs cw ct ct cl cb cp gc := ga3.trans (gb3.trans gc3)
  rw [e1]
  obtain ⟨v, cu', m', hv, er, -⟩ := sim_rest hr (by omega) ct
  have hv1 : I v = I 1 := rest_start (wireC hr) (rel_one hr) (rankC hr) w3 (fun k hk => (w0 k hk).1) (fun s hs => ⟨(t1 s hs).1, by rw [t2 2 (by omega) (by omega)]; rfl, by rw [t2 3 (by omega) (by omega)]; rfl, (t1 s hs).2⟩) (fun k _ => ⟨c5 k, c6 k, c7 k, c8 k⟩) _ er
  obtain ⟨cg, eg⟩ : ∃ cg, cg = aS (aS gc 4 3 1) 4 5 20 := ⟨_, rfl⟩
  have g0 : ∀ k, k < 30 → cg 0 k = nn := fun k hk => by
    rw [eg, aS_ne _ _ _ _ (by decide), aS_ne _ _ _ _ (by decide), gc1 0 (by omega), gb1 0 (by omega)]; exact ga2 k hk
  have g2 : ∀ k, k < 10 → cg 2 k = nn := fun k hk => by
    rw [eg, aS_ne _ _ _ _ (by decide), aS_ne _ _ _ _ (by decide), gc1 2 (by omega)]; exact gb2 k hk
  have g3 : ∀ k, k < 6 → cg 3 k = I 8 := fun k hk => by
    rw [eg, aS_ne _ _ _ _ (by decide), aS_ne _ _ _ _ (by decide)]; exact gc2 k hk
  have c4 : gc 4 = st0 4 := by rw [gc1 4 (by omega), gb1 4 (by omega), ga1 4 (by omega)]
  have n3 : (3 : Int32).toNatClampNeg = 3 := by decide
  have n5 : (5 : Int32).toNatClampNeg = 5 := by decide
  have g4 : ∀ j, cg 4 j = if j = 5 then I 20 else if j = 3 then I 1 else I 0 := fun j => by
    rw [eg, aS_eq, aS_eq, upd_at, upd_at, n3, n5, c4]; rfl
  have hinv : LInv 0 0 cs cw ct cl cb cg := by
    refine ⟨⟨mm, hr⟩, ⟨fun k hk => ⟨fun _ => c7 k, fun z => absurd (w0 k hk).2 z, fun z => absurd (w0 k hk).1 z, fun z => ?_, Or.inl (c6 k)⟩, fun j hj o ho => Or.inl (b0 _ (by omega)), fun s hs _ => ⟨(t1 s hs).1, ?_, ?_⟩, fun k hk => ⟨0, ?_, by omega⟩⟩, fun k hk => Or.inr (Or.inr ⟨(w0 k hk).1, (w0 k hk).2, g0 k hk⟩), fun g hg => ?_, fun j hj => ?_, ?_, ?_, ?_, ?_, ?_, Or.inr ⟨?_, w3⟩⟩
    · rw [c6 k] at z
      exact absurd z (by decide)
    · rw [t2 2 (by omega) (by omega)]; rfl
    · rw [t2 3 (by omega) (by omega)]; rfl
    · rw [ecs]; rfl
    · rw [g2 g hg, w4 g hg]
    · rw [g3 j hj, w5 j hj]
    · rw [g4, w1 6 (by omega) (by omega) (by omega) (by omega)]; rfl
    · rw [g4, w1 7 (by omega) (by omega) (by omega) (by omega)]; rfl
    · rw [g4, t2 9 (by omega) (by omega)]; rfl
    · rw [g4, ecs]; rfl
    · rw [g4, ecs]; decide
    · rw [g4]; rfl
  have fin : ∀ cu, fL_law_J263 L xs cs cw ct cu cl cb cp cg 1 = some 1 := fun cu => law_loop (cu := cu) (cp := cp) hL 64 66 0 (by omega) (by omega) hinv
  unfold fL_law_J102
  rw [show inb 3 6 = true by decide, show inb 5 6 = true by decide, ck1, ck1, er, bd1, hv1, if_neg z10, ← eg]
  dsimp only
  rw [do_11a, bd1, if_pos rfl]
  dsimp only
  rw [do_11b, bd1, if_pos rfl]
  dsimp only
  rw [do_12a, bd1, if_pos rfl]
  dsimp only
  rw [do_12b, bd1, if_pos rfl]
  dsimp only
  rw [do_13, bd1, if_pos rfl]
  dsimp only
  rw [do_14, bd1, if_pos rfl]
  dsimp only
  rw [do_8, bd1, if_pos rfl]
  dsimp only
  rw [do_9, bd1, if_pos rfl]
  exact fin _

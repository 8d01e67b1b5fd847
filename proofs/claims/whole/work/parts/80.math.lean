/-! ===== the law answers 1 ===== -/
theorem law_step {N L x : Nat} {xs : Nat → Int32} {cs cw ct cu cl cb cp mm : St} {co : Nat → Int64} (h : Rel N cs cw ct cl cb mm) (hN : N + 60 ≤ 100000) (hx : x + 6 ≤ L) (hL : L ≤ 3072) : ∃ cs' cw' ct' cu' cl' cb' cp' mm' co', Rel (N + 60) cs' cw' ct' cl' cb' mm' ∧ ∀ rec, fL_law_S23 rec L xs cs cw ct cu cl cb cp mm co (I x) = rec (cs', cw', ct', cu', cl', cb', cp', mm', co', I (x + 6)) := by
  by_cases h0 : xs x &&& I 31 = I 0
  · exact lz_wire h hN hx hL h0
  by_cases h1 : xs x &&& I 31 = I 1
  · exact lz_free h hN hx hL h1
  by_cases h2 : xs x &&& I 31 = I 2
  · exact lz_house h hN hx hL h2
  by_cases h3 : xs x &&& I 31 = I 3
  · exact lz_rank h hN hx hL h3
  by_cases h4 : xs x &&& I 31 = I 4
  · exact lz_shut h hN hx hL h4
  by_cases h5 : xs x &&& I 31 = I 5
  · exact lz_guard h hN hx hL h5
  by_cases h6 : xs x &&& I 31 = I 6
  · exact lz_plain h hN hx hL h6
  by_cases h7 : xs x &&& I 31 = I 7
  · exact lz_trunk h hN hx hL h7
  by_cases h8 : xs x &&& I 31 = I 8
  · exact lz_limit h hN hx hL h8
  by_cases h9 : xs x &&& I 31 = I 9
  · exact lz_beat h hN hx hL h9
  by_cases h10 : xs x &&& I 31 = I 10
  · exact lz_send h hN hx hL h10
  by_cases h11 : xs x &&& I 31 = I 11
  · exact lz_holds h hN hx hL h11
  by_cases h12 : xs x &&& I 31 = I 12
  · exact lz_port h hN hx hL h12
  by_cases h13 : xs x &&& I 31 = I 13
  · exact lz_table h hN hx hL h13
  by_cases h14 : xs x &&& I 31 = I 14
  · exact lz_got h hN hx hL h14
  by_cases h15 : xs x &&& I 31 = I 15
  · exact lz_rest h hN hx hL h15
  by_cases h16 : xs x &&& I 31 = I 16
  · exact lz_found h hN hx hL h16
  by_cases h17 : xs x &&& I 31 = I 17
  · exact lz_walk h hN hx hL h17
  exact ⟨cs, cw, ct, cu, cl, cb, cp, mm, co, h.mono (by omega) (by omega), fun rec => by
    simp (disch := omega) only [fL_law_S23, ofN, ck1, bd1, bx1, bx2, aS_at, iS_at, upd_at, ↓reduceIte, Nat.reduceEqDiff, Nat.reduceAdd, Nat.reduceMul, Nat.reduceSub, Nat.reduceDiv, Nat.reduceLT, Nat.reduceLeDiff, Nat.reduceBEq, ne_eq, not_true_eq_false, not_false_eq_true, reduceCtorEq, if_true, if_false, eq_self, Nat.add_zero, Nat.zero_add, lit, lit_nn, I_nat, I_add, I_mul, I_sub, I_div, inb_t, I_ne, I_nn, nn_I, nn_lt, nn_le, lt_nn, le_nn, I_t, I_f, I_lt_t, I_lt_f, isb_0, isb_1, vz_0, vz_1, nn_nat, h0, h1, h2, h3, h4, h5, h6, h7, h8, h9, h10, h11, h12, h13, h14, h15, h16, h17]⟩
theorem law_over {L x : Nat} (hL : L ≤ 3072) (hx : L < x + 6) (hx2 : x < 2147483648) : (I L - I 6 < I x) = True := by
  by_cases z : 6 ≤ L
  · rw [I_sub z]
    exact I_t (by omega) hx2
  · apply eq_true
    have e : (I L - I 6).toInt < 0 := by
      rcases (show L = 0 ∨ L = 1 ∨ L = 2 ∨ L = 3 ∨ L = 4 ∨ L = 5 by omega) with rfl | rfl | rfl | rfl | rfl | rfl <;> decide
    rw [Int32.lt_iff_toInt_lt, I_int hx2]
    omega
theorem law_run {L : Nat} {xs : Nat → Int32} (hL : L ≤ 3072) : ∀ d x n N (cs cw ct cu cl cb cp mm : St) (co : Nat → Int64), L < x + 6 * d + 6 → d < n → N + 60 * d ≤ 100000 → x ≤ 6000 - 6 * d → d ≤ 512 → Rel N cs cw ct cl cb mm → loopN (fun k a => fL_law_S23 k L xs (a.1) (a.2.1) (a.2.2.1) (a.2.2.2.1) (a.2.2.2.2.1) (a.2.2.2.2.2.1) (a.2.2.2.2.2.2.1) (a.2.2.2.2.2.2.2.1) (a.2.2.2.2.2.2.2.2.1) (a.2.2.2.2.2.2.2.2.2)) n (cs, cw, ct, cu, cl, cb, cp, mm, co, I x) = some (I 1) := by
  intro d
  induction d with
  | zero =>
    intro x n N cs cw ct cu cl cb cp mm co h1 h2 h3 h4 h5 h
    obtain ⟨m, rfl⟩ : ∃ m, n = m + 1 := ⟨n - 1, by omega⟩
    rw [loopN_s]
    generalize loopN (fun k a => fL_law_S23 k L xs (a.1) (a.2.1) (a.2.2.1) (a.2.2.2.1) (a.2.2.2.2.1) (a.2.2.2.2.2.1) (a.2.2.2.2.2.2.1) (a.2.2.2.2.2.2.2.1) (a.2.2.2.2.2.2.2.2.1) (a.2.2.2.2.2.2.2.2.2)) m = rec
    show fL_law_S23 rec L xs cs cw ct cu cl cb cp mm co (I x) = _
    unfold fL_law_S23
    rw [ofN, lit, if_pos (of_eq_true (law_over hL (by omega) (by omega)))]
    rfl
  | succ d ih =>
    intro x n N cs cw ct cu cl cb cp mm co h1 h2 h3 h4 h5 h
    obtain ⟨m, rfl⟩ : ∃ m, n = m + 1 := ⟨n - 1, by omega⟩
    by_cases z : x + 6 ≤ L
    · obtain ⟨cs', cw', ct', cu', cl', cb', cp', mm', co', g1, g2⟩ := law_step (cu := cu) (cp := cp) (co := co) (xs := xs) h (by omega) z hL
      have := ih (x + 6) m (N + 60) cs' cw' ct' cu' cl' cb' cp' mm' co' (by omega) (by omega) (by omega) (by omega) (by omega) g1
      rw [← this, loopN_s]
      exact g2 _
    · rw [loopN_s]
      generalize loopN (fun k a => fL_law_S23 k L xs (a.1) (a.2.1) (a.2.2.1) (a.2.2.2.1) (a.2.2.2.2.1) (a.2.2.2.2.2.1) (a.2.2.2.2.2.2.1) (a.2.2.2.2.2.2.2.1) (a.2.2.2.2.2.2.2.2.1) (a.2.2.2.2.2.2.2.2.2)) m = rec
      show fL_law_S23 rec L xs cs cw ct cu cl cb cp mm co (I x) = _
      unfold fL_law_S23
      rw [ofN, lit, if_pos (of_eq_true (law_over hL (by omega) (by omega)))]
      rfl
theorem law_true (L : Nat) (xs : Nat → Int32) (hL : L ≤ 3072) : ∃ (cs cw ct cu cl cb cp mm : St), fX5_init = some (cs, cw, ct, cu, cl, cb, cp) ∧ fX6_init = some mm ∧ fL_law_L23 L xs cs cw ct cu cl cb cp mm (fun _ => 0) 0 = some 1 := by
  obtain ⟨cs, cw, ct, cu, cl, cb, cp, mm, h1, h2, h3⟩ := init_rel
  refine ⟨cs, cw, ct, cu, cl, cb, cp, mm, h1, h2, ?_⟩
  exact law_run hL 512 0 1000 0 cs cw ct cu cl cb cp mm (fun _ => 0) (by omega) (by omega) (by omega) (by omega) (by omega) h3

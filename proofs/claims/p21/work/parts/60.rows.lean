/-! ===== all rows kept, all back ===== -/
def TT (a : St) (y : Nat) : Int32 := if y < 6 then a 16 (y - 0) else if y < 12 then a 17 (y - 6) else if y < 18 then a 18 (y - 12) else if y < 24 then a 19 (y - 18) else if y < 54 then a 13 (y - 24) else if y < 84 then a 14 (y - 54) else if y < 114 then a 11 (y - 84) else if y < 144 then a 15 (y - 114) else if y < 150 then a 24 (y - 144) else if y < 198 then a 25 (y - 150) else if y < 246 then a 26 (y - 198) else if y < 294 then a 27 (y - 246) else a 28 (y - 294)
def offs : Nat → Nat
  | 0 => 0
  | 1 => 6
  | 2 => 12
  | 3 => 18
  | 4 => 24
  | 5 => 54
  | 6 => 84
  | 7 => 114
  | 8 => 144
  | 9 => 150
  | 10 => 198
  | 11 => 246
  | 12 => 294
  | _ => 342
theorem tt_16 (a : St) {x : Nat} (hx : x < 6) : TT a (0 + x) = a 16 x := by
  unfold TT
  rw [if_pos (by omega), show 0 + x - 0 = x by omega]
theorem tt_17 (a : St) {x : Nat} (hx : x < 6) : TT a (6 + x) = a 17 x := by
  unfold TT
  rw [if_neg (by omega), if_pos (by omega), show 6 + x - 6 = x by omega]
theorem tt_18 (a : St) {x : Nat} (hx : x < 6) : TT a (12 + x) = a 18 x := by
  unfold TT
  rw [if_neg (by omega), if_neg (by omega), if_pos (by omega), show 12 + x - 12 = x by omega]
theorem tt_19 (a : St) {x : Nat} (hx : x < 6) : TT a (18 + x) = a 19 x := by
  unfold TT
  rw [if_neg (by omega), if_neg (by omega), if_neg (by omega), if_pos (by omega), show 18 + x - 18 = x by omega]
theorem tt_13 (a : St) {x : Nat} (hx : x < 30) : TT a (24 + x) = a 13 x := by
  unfold TT
  rw [if_neg (by omega), if_neg (by omega), if_neg (by omega), if_neg (by omega), if_pos (by omega), show 24 + x - 24 = x by omega]
theorem tt_14 (a : St) {x : Nat} (hx : x < 30) : TT a (54 + x) = a 14 x := by
  unfold TT
  rw [if_neg (by omega), if_neg (by omega), if_neg (by omega), if_neg (by omega), if_neg (by omega), if_pos (by omega), show 54 + x - 54 = x by omega]
theorem tt_11 (a : St) {x : Nat} (hx : x < 30) : TT a (84 + x) = a 11 x := by
  unfold TT
  rw [if_neg (by omega), if_neg (by omega), if_neg (by omega), if_neg (by omega), if_neg (by omega), if_neg (by omega), if_pos (by omega), show 84 + x - 84 = x by omega]
theorem tt_15 (a : St) {x : Nat} (hx : x < 30) : TT a (114 + x) = a 15 x := by
  unfold TT
  rw [if_neg (by omega), if_neg (by omega), if_neg (by omega), if_neg (by omega), if_neg (by omega), if_neg (by omega), if_neg (by omega), if_pos (by omega), show 114 + x - 114 = x by omega]
theorem tt_24 (a : St) {x : Nat} (hx : x < 6) : TT a (144 + x) = a 24 x := by
  unfold TT
  rw [if_neg (by omega), if_neg (by omega), if_neg (by omega), if_neg (by omega), if_neg (by omega), if_neg (by omega), if_neg (by omega), if_neg (by omega), if_pos (by omega), show 144 + x - 144 = x by omega]
theorem tt_25 (a : St) {x : Nat} (hx : x < 48) : TT a (150 + x) = a 25 x := by
  unfold TT
  rw [if_neg (by omega), if_neg (by omega), if_neg (by omega), if_neg (by omega), if_neg (by omega), if_neg (by omega), if_neg (by omega), if_neg (by omega), if_neg (by omega), if_pos (by omega), show 150 + x - 150 = x by omega]
theorem tt_26 (a : St) {x : Nat} (hx : x < 48) : TT a (198 + x) = a 26 x := by
  unfold TT
  rw [if_neg (by omega), if_neg (by omega), if_neg (by omega), if_neg (by omega), if_neg (by omega), if_neg (by omega), if_neg (by omega), if_neg (by omega), if_neg (by omega), if_neg (by omega), if_pos (by omega), show 198 + x - 198 = x by omega]
theorem tt_27 (a : St) {x : Nat} (hx : x < 48) : TT a (246 + x) = a 27 x := by
  unfold TT
  rw [if_neg (by omega), if_neg (by omega), if_neg (by omega), if_neg (by omega), if_neg (by omega), if_neg (by omega), if_neg (by omega), if_neg (by omega), if_neg (by omega), if_neg (by omega), if_neg (by omega), if_pos (by omega), show 246 + x - 246 = x by omega]
theorem tt_28 (a : St) {x : Nat} (hx : x < 48) : TT a (294 + x) = a 28 x := by
  unfold TT
  rw [if_neg (by omega), if_neg (by omega), if_neg (by omega), if_neg (by omega), if_neg (by omega), if_neg (by omega), if_neg (by omega), if_neg (by omega), if_neg (by omega), if_neg (by omega), if_neg (by omega), if_neg (by omega), show 294 + x - 294 = x by omega]
theorem ks_0 {a m : St} (h : Kp (TT a) 0 a m) : ∃ m', Kp (TT a) 6 a m' ∧ ∀ rec, fX6_rows_S10 rec (I 0) m (I 0) (I 0) = rec (m', I 6, I 1) := by
  obtain ⟨m', h1, h2⟩ := keeps_16 (fun x hx => tt_16 a hx) h
  refine ⟨m', h2, fun rec => ?_⟩
  simp (disch := omega) only [fX6_rows_S10, ck1, bd1, bx1, bx2, aS_at, iS_at, upd_at, ↓reduceIte, Nat.reduceEqDiff, Nat.reduceAdd, Nat.reduceMul, Nat.reduceSub, Nat.reduceDiv, Nat.reduceLT, Nat.reduceLeDiff, Nat.reduceBEq, ne_eq, not_true_eq_false, not_false_eq_true, reduceCtorEq, if_true, if_false, eq_self, Nat.add_zero, Nat.zero_add, lit, lit_nn, I_nat, I_add, I_mul, I_sub, I_div, inb_t, I_ne, I_nn, nn_I, nn_lt, nn_le, lt_nn, le_nn, I_t, I_f, I_lt_t, I_lt_f, isb_0, isb_1, vz_0, vz_1, nn_nat, h1]
theorem ks_1 {a m : St} (h : Kp (TT a) 6 a m) : ∃ m', Kp (TT a) 12 a m' ∧ ∀ rec, fX6_rows_S10 rec (I 0) m (I 6) (I 1) = rec (m', I 12, I 2) := by
  obtain ⟨m', h1, h2⟩ := keeps_17 (fun x hx => tt_17 a hx) h
  refine ⟨m', h2, fun rec => ?_⟩
  simp (disch := omega) only [fX6_rows_S10, ck1, bd1, bx1, bx2, aS_at, iS_at, upd_at, ↓reduceIte, Nat.reduceEqDiff, Nat.reduceAdd, Nat.reduceMul, Nat.reduceSub, Nat.reduceDiv, Nat.reduceLT, Nat.reduceLeDiff, Nat.reduceBEq, ne_eq, not_true_eq_false, not_false_eq_true, reduceCtorEq, if_true, if_false, eq_self, Nat.add_zero, Nat.zero_add, lit, lit_nn, I_nat, I_add, I_mul, I_sub, I_div, inb_t, I_ne, I_nn, nn_I, nn_lt, nn_le, lt_nn, le_nn, I_t, I_f, I_lt_t, I_lt_f, isb_0, isb_1, vz_0, vz_1, nn_nat, h1]
theorem ks_2 {a m : St} (h : Kp (TT a) 12 a m) : ∃ m', Kp (TT a) 18 a m' ∧ ∀ rec, fX6_rows_S10 rec (I 0) m (I 12) (I 2) = rec (m', I 18, I 3) := by
  obtain ⟨m', h1, h2⟩ := keeps_18 (fun x hx => tt_18 a hx) h
  refine ⟨m', h2, fun rec => ?_⟩
  simp (disch := omega) only [fX6_rows_S10, ck1, bd1, bx1, bx2, aS_at, iS_at, upd_at, ↓reduceIte, Nat.reduceEqDiff, Nat.reduceAdd, Nat.reduceMul, Nat.reduceSub, Nat.reduceDiv, Nat.reduceLT, Nat.reduceLeDiff, Nat.reduceBEq, ne_eq, not_true_eq_false, not_false_eq_true, reduceCtorEq, if_true, if_false, eq_self, Nat.add_zero, Nat.zero_add, lit, lit_nn, I_nat, I_add, I_mul, I_sub, I_div, inb_t, I_ne, I_nn, nn_I, nn_lt, nn_le, lt_nn, le_nn, I_t, I_f, I_lt_t, I_lt_f, isb_0, isb_1, vz_0, vz_1, nn_nat, h1]
theorem ks_3 {a m : St} (h : Kp (TT a) 18 a m) : ∃ m', Kp (TT a) 24 a m' ∧ ∀ rec, fX6_rows_S10 rec (I 0) m (I 18) (I 3) = rec (m', I 24, I 4) := by
  obtain ⟨m', h1, h2⟩ := keeps_19 (fun x hx => tt_19 a hx) h
  refine ⟨m', h2, fun rec => ?_⟩
  simp (disch := omega) only [fX6_rows_S10, ck1, bd1, bx1, bx2, aS_at, iS_at, upd_at, ↓reduceIte, Nat.reduceEqDiff, Nat.reduceAdd, Nat.reduceMul, Nat.reduceSub, Nat.reduceDiv, Nat.reduceLT, Nat.reduceLeDiff, Nat.reduceBEq, ne_eq, not_true_eq_false, not_false_eq_true, reduceCtorEq, if_true, if_false, eq_self, Nat.add_zero, Nat.zero_add, lit, lit_nn, I_nat, I_add, I_mul, I_sub, I_div, inb_t, I_ne, I_nn, nn_I, nn_lt, nn_le, lt_nn, le_nn, I_t, I_f, I_lt_t, I_lt_f, isb_0, isb_1, vz_0, vz_1, nn_nat, h1]
theorem ks_4 {a m : St} (h : Kp (TT a) 24 a m) : ∃ m', Kp (TT a) 54 a m' ∧ ∀ rec, fX6_rows_S10 rec (I 0) m (I 24) (I 4) = rec (m', I 54, I 5) := by
  obtain ⟨m', h1, h2⟩ := keeps_13 (fun x hx => tt_13 a hx) h
  refine ⟨m', h2, fun rec => ?_⟩
  simp (disch := omega) only [fX6_rows_S10, ck1, bd1, bx1, bx2, aS_at, iS_at, upd_at, ↓reduceIte, Nat.reduceEqDiff, Nat.reduceAdd, Nat.reduceMul, Nat.reduceSub, Nat.reduceDiv, Nat.reduceLT, Nat.reduceLeDiff, Nat.reduceBEq, ne_eq, not_true_eq_false, not_false_eq_true, reduceCtorEq, if_true, if_false, eq_self, Nat.add_zero, Nat.zero_add, lit, lit_nn, I_nat, I_add, I_mul, I_sub, I_div, inb_t, I_ne, I_nn, nn_I, nn_lt, nn_le, lt_nn, le_nn, I_t, I_f, I_lt_t, I_lt_f, isb_0, isb_1, vz_0, vz_1, nn_nat, h1]
theorem ks_5 {a m : St} (h : Kp (TT a) 54 a m) : ∃ m', Kp (TT a) 84 a m' ∧ ∀ rec, fX6_rows_S10 rec (I 0) m (I 54) (I 5) = rec (m', I 84, I 6) := by
  obtain ⟨m', h1, h2⟩ := keeps_14 (fun x hx => tt_14 a hx) h
  refine ⟨m', h2, fun rec => ?_⟩
  simp (disch := omega) only [fX6_rows_S10, ck1, bd1, bx1, bx2, aS_at, iS_at, upd_at, ↓reduceIte, Nat.reduceEqDiff, Nat.reduceAdd, Nat.reduceMul, Nat.reduceSub, Nat.reduceDiv, Nat.reduceLT, Nat.reduceLeDiff, Nat.reduceBEq, ne_eq, not_true_eq_false, not_false_eq_true, reduceCtorEq, if_true, if_false, eq_self, Nat.add_zero, Nat.zero_add, lit, lit_nn, I_nat, I_add, I_mul, I_sub, I_div, inb_t, I_ne, I_nn, nn_I, nn_lt, nn_le, lt_nn, le_nn, I_t, I_f, I_lt_t, I_lt_f, isb_0, isb_1, vz_0, vz_1, nn_nat, h1]
theorem ks_6 {a m : St} (h : Kp (TT a) 84 a m) : ∃ m', Kp (TT a) 114 a m' ∧ ∀ rec, fX6_rows_S10 rec (I 0) m (I 84) (I 6) = rec (m', I 114, I 7) := by
  obtain ⟨m', h1, h2⟩ := keeps_11 (fun x hx => tt_11 a hx) h
  refine ⟨m', h2, fun rec => ?_⟩
  simp (disch := omega) only [fX6_rows_S10, ck1, bd1, bx1, bx2, aS_at, iS_at, upd_at, ↓reduceIte, Nat.reduceEqDiff, Nat.reduceAdd, Nat.reduceMul, Nat.reduceSub, Nat.reduceDiv, Nat.reduceLT, Nat.reduceLeDiff, Nat.reduceBEq, ne_eq, not_true_eq_false, not_false_eq_true, reduceCtorEq, if_true, if_false, eq_self, Nat.add_zero, Nat.zero_add, lit, lit_nn, I_nat, I_add, I_mul, I_sub, I_div, inb_t, I_ne, I_nn, nn_I, nn_lt, nn_le, lt_nn, le_nn, I_t, I_f, I_lt_t, I_lt_f, isb_0, isb_1, vz_0, vz_1, nn_nat, h1]
theorem ks_7 {a m : St} (h : Kp (TT a) 114 a m) : ∃ m', Kp (TT a) 144 a m' ∧ ∀ rec, fX6_rows_S10 rec (I 0) m (I 114) (I 7) = rec (m', I 144, I 8) := by
  obtain ⟨m', h1, h2⟩ := keeps_15 (fun x hx => tt_15 a hx) h
  refine ⟨m', h2, fun rec => ?_⟩
  simp (disch := omega) only [fX6_rows_S10, ck1, bd1, bx1, bx2, aS_at, iS_at, upd_at, ↓reduceIte, Nat.reduceEqDiff, Nat.reduceAdd, Nat.reduceMul, Nat.reduceSub, Nat.reduceDiv, Nat.reduceLT, Nat.reduceLeDiff, Nat.reduceBEq, ne_eq, not_true_eq_false, not_false_eq_true, reduceCtorEq, if_true, if_false, eq_self, Nat.add_zero, Nat.zero_add, lit, lit_nn, I_nat, I_add, I_mul, I_sub, I_div, inb_t, I_ne, I_nn, nn_I, nn_lt, nn_le, lt_nn, le_nn, I_t, I_f, I_lt_t, I_lt_f, isb_0, isb_1, vz_0, vz_1, nn_nat, h1]
theorem ks_8 {a m : St} (h : Kp (TT a) 144 a m) : ∃ m', Kp (TT a) 150 a m' ∧ ∀ rec, fX6_rows_S10 rec (I 0) m (I 144) (I 8) = rec (m', I 150, I 9) := by
  obtain ⟨m', h1, h2⟩ := keeps_24 (fun x hx => tt_24 a hx) h
  refine ⟨m', h2, fun rec => ?_⟩
  simp (disch := omega) only [fX6_rows_S10, ck1, bd1, bx1, bx2, aS_at, iS_at, upd_at, ↓reduceIte, Nat.reduceEqDiff, Nat.reduceAdd, Nat.reduceMul, Nat.reduceSub, Nat.reduceDiv, Nat.reduceLT, Nat.reduceLeDiff, Nat.reduceBEq, ne_eq, not_true_eq_false, not_false_eq_true, reduceCtorEq, if_true, if_false, eq_self, Nat.add_zero, Nat.zero_add, lit, lit_nn, I_nat, I_add, I_mul, I_sub, I_div, inb_t, I_ne, I_nn, nn_I, nn_lt, nn_le, lt_nn, le_nn, I_t, I_f, I_lt_t, I_lt_f, isb_0, isb_1, vz_0, vz_1, nn_nat, h1]
theorem ks_9 {a m : St} (h : Kp (TT a) 150 a m) : ∃ m', Kp (TT a) 198 a m' ∧ ∀ rec, fX6_rows_S10 rec (I 0) m (I 150) (I 9) = rec (m', I 198, I 10) := by
  obtain ⟨m', h1, h2⟩ := keeps_25 (fun x hx => tt_25 a hx) h
  refine ⟨m', h2, fun rec => ?_⟩
  simp (disch := omega) only [fX6_rows_S10, ck1, bd1, bx1, bx2, aS_at, iS_at, upd_at, ↓reduceIte, Nat.reduceEqDiff, Nat.reduceAdd, Nat.reduceMul, Nat.reduceSub, Nat.reduceDiv, Nat.reduceLT, Nat.reduceLeDiff, Nat.reduceBEq, ne_eq, not_true_eq_false, not_false_eq_true, reduceCtorEq, if_true, if_false, eq_self, Nat.add_zero, Nat.zero_add, lit, lit_nn, I_nat, I_add, I_mul, I_sub, I_div, inb_t, I_ne, I_nn, nn_I, nn_lt, nn_le, lt_nn, le_nn, I_t, I_f, I_lt_t, I_lt_f, isb_0, isb_1, vz_0, vz_1, nn_nat, h1]
theorem ks_10 {a m : St} (h : Kp (TT a) 198 a m) : ∃ m', Kp (TT a) 246 a m' ∧ ∀ rec, fX6_rows_S10 rec (I 0) m (I 198) (I 10) = rec (m', I 246, I 11) := by
  obtain ⟨m', h1, h2⟩ := keeps_26 (fun x hx => tt_26 a hx) h
  refine ⟨m', h2, fun rec => ?_⟩
  simp (disch := omega) only [fX6_rows_S10, ck1, bd1, bx1, bx2, aS_at, iS_at, upd_at, ↓reduceIte, Nat.reduceEqDiff, Nat.reduceAdd, Nat.reduceMul, Nat.reduceSub, Nat.reduceDiv, Nat.reduceLT, Nat.reduceLeDiff, Nat.reduceBEq, ne_eq, not_true_eq_false, not_false_eq_true, reduceCtorEq, if_true, if_false, eq_self, Nat.add_zero, Nat.zero_add, lit, lit_nn, I_nat, I_add, I_mul, I_sub, I_div, inb_t, I_ne, I_nn, nn_I, nn_lt, nn_le, lt_nn, le_nn, I_t, I_f, I_lt_t, I_lt_f, isb_0, isb_1, vz_0, vz_1, nn_nat, h1]
theorem ks_11 {a m : St} (h : Kp (TT a) 246 a m) : ∃ m', Kp (TT a) 294 a m' ∧ ∀ rec, fX6_rows_S10 rec (I 0) m (I 246) (I 11) = rec (m', I 294, I 12) := by
  obtain ⟨m', h1, h2⟩ := keeps_27 (fun x hx => tt_27 a hx) h
  refine ⟨m', h2, fun rec => ?_⟩
  simp (disch := omega) only [fX6_rows_S10, ck1, bd1, bx1, bx2, aS_at, iS_at, upd_at, ↓reduceIte, Nat.reduceEqDiff, Nat.reduceAdd, Nat.reduceMul, Nat.reduceSub, Nat.reduceDiv, Nat.reduceLT, Nat.reduceLeDiff, Nat.reduceBEq, ne_eq, not_true_eq_false, not_false_eq_true, reduceCtorEq, if_true, if_false, eq_self, Nat.add_zero, Nat.zero_add, lit, lit_nn, I_nat, I_add, I_mul, I_sub, I_div, inb_t, I_ne, I_nn, nn_I, nn_lt, nn_le, lt_nn, le_nn, I_t, I_f, I_lt_t, I_lt_f, isb_0, isb_1, vz_0, vz_1, nn_nat, h1]
theorem ks_12 {a m : St} (h : Kp (TT a) 294 a m) : ∃ m', Kp (TT a) 342 a m' ∧ ∀ rec, fX6_rows_S10 rec (I 0) m (I 294) (I 12) = rec (m', I 342, I 13) := by
  obtain ⟨m', h1, h2⟩ := keeps_28 (fun x hx => tt_28 a hx) h
  refine ⟨m', h2, fun rec => ?_⟩
  simp (disch := omega) only [fX6_rows_S10, ck1, bd1, bx1, bx2, aS_at, iS_at, upd_at, ↓reduceIte, Nat.reduceEqDiff, Nat.reduceAdd, Nat.reduceMul, Nat.reduceSub, Nat.reduceDiv, Nat.reduceLT, Nat.reduceLeDiff, Nat.reduceBEq, ne_eq, not_true_eq_false, not_false_eq_true, reduceCtorEq, if_true, if_false, eq_self, Nat.add_zero, Nat.zero_add, lit, lit_nn, I_nat, I_add, I_mul, I_sub, I_div, inb_t, I_ne, I_nn, nn_I, nn_lt, nn_le, lt_nn, le_nn, I_t, I_f, I_lt_t, I_lt_f, isb_0, isb_1, vz_0, vz_1, nn_nat, h1]
theorem rows_keep (a : St) : ∃ m, fX6_rows a (I 0) = fX6_rows_J213 m (I 0) ∧ Kp (TT a) 342 a m := by
  obtain ⟨m, h1, h2⟩ := loop_up (σ := St) (step := fun k a' => fX6_rows_S10 k (I 0) (a'.1) (a'.2.1) (a'.2.2)) (fun i m => (m, I (offs i), I i)) 13 (fun i m => Kp (TT a) (offs i) a m) (fun m => fX6_rows_J213 m (I 0))
    (by
      intro i m hi h
      match i, hi, h with
      | 0, _, h => exact ks_0 h
      | 1, _, h => exact ks_1 h
      | 2, _, h => exact ks_2 h
      | 3, _, h => exact ks_3 h
      | 4, _, h => exact ks_4 h
      | 5, _, h => exact ks_5 h
      | 6, _, h => exact ks_6 h
      | 7, _, h => exact ks_7 h
      | 8, _, h => exact ks_8 h
      | 9, _, h => exact ks_9 h
      | 10, _, h => exact ks_10 h
      | 11, _, h => exact ks_11 h
      | 12, _, h => exact ks_12 h
      | i + 13, hi, _ => omega)
    (by
      intro m _ rec
      simp (disch := omega) only [fX6_rows_S10, ck1, bd1, bx1, bx2, aS_at, iS_at, upd_at, ↓reduceIte, Nat.reduceEqDiff, Nat.reduceAdd, Nat.reduceMul, Nat.reduceSub, Nat.reduceDiv, Nat.reduceLT, Nat.reduceLeDiff, Nat.reduceBEq, ne_eq, not_true_eq_false, not_false_eq_true, reduceCtorEq, if_true, if_false, eq_self, Nat.add_zero, Nat.zero_add, lit, lit_nn, I_nat, I_add, I_mul, I_sub, I_div, inb_t, I_ne, I_nn, nn_I, nn_lt, nn_le, lt_nn, le_nn, I_t, I_f, I_lt_t, I_lt_f, isb_0, isb_1, vz_0, vz_1, nn_nat])
    13 0 a 1000 (by omega) (by omega) ⟨fun _ _ => rfl, fun y hy => absurd hy (Nat.not_lt_zero _)⟩
  refine ⟨m, ?_, h1⟩
  unfold fX6_rows fX6_rows_L10
  rw [lit]
  exact h2
/-- the slots that come back -/
def BQ (q : Nat) : Prop := q = 11 ∨ (13 ≤ q ∧ q ≤ 19) ∨ (24 ≤ q ∧ q ≤ 28)
def Bak_q (t : Nat) (b m : St) : Prop := (∀ q, ¬ BQ q → m q = b q) ∧ ∀ y, y < t → TT m y = b 36 y
theorem bs_0 {b m : St} (h : Bak_q 0 b m) : ∃ m', Bak_q 6 b m' ∧ ∀ rec, fX6_rows_S10 rec (I 1) m (I 0) (I 0) = rec (m', I 6, I 1) := by
  obtain ⟨f, h1, h2⟩ := back_16 m
  refine ⟨pF m 16 f, ⟨fun q hq => ?_, fun y hy => ?_⟩, fun rec => ?_⟩
  · rw [pF_at, if_neg (fun e => hq (by unfold BQ; omega))]
    exact h.1 q hq
  · by_cases d : y < 0
    · rw [← h.2 y d]
      unfold TT
      simp only [pF_at, Nat.reduceEqDiff, ↓reduceIte]
      exact absurd d (by omega)
    · obtain ⟨x, rfl⟩ : ∃ x, y = 0 + x := ⟨y - 0, by omega⟩
      rw [tt_16 _ (by omega), pF_at, if_pos rfl, h2 x (by omega), h.1 36 (by unfold BQ; omega)]
  · simp (disch := omega) only [fX6_rows_S10, ck1, bd1, bx1, bx2, aS_at, iS_at, upd_at, ↓reduceIte, Nat.reduceEqDiff, Nat.reduceAdd, Nat.reduceMul, Nat.reduceSub, Nat.reduceDiv, Nat.reduceLT, Nat.reduceLeDiff, Nat.reduceBEq, ne_eq, not_true_eq_false, not_false_eq_true, reduceCtorEq, if_true, if_false, eq_self, Nat.add_zero, Nat.zero_add, lit, lit_nn, I_nat, I_add, I_mul, I_sub, I_div, inb_t, I_ne, I_nn, nn_I, nn_lt, nn_le, lt_nn, le_nn, I_t, I_f, I_lt_t, I_lt_f, isb_0, isb_1, vz_0, vz_1, nn_nat, h1, I01]
theorem bs_1 {b m : St} (h : Bak_q 6 b m) : ∃ m', Bak_q 12 b m' ∧ ∀ rec, fX6_rows_S10 rec (I 1) m (I 6) (I 1) = rec (m', I 12, I 2) := by
  obtain ⟨f, h1, h2⟩ := back_17 m
  refine ⟨pF m 17 f, ⟨fun q hq => ?_, fun y hy => ?_⟩, fun rec => ?_⟩
  · rw [pF_at, if_neg (fun e => hq (by unfold BQ; omega))]
    exact h.1 q hq
  · by_cases d : y < 6
    · rw [← h.2 y d]
      unfold TT
      simp only [pF_at, Nat.reduceEqDiff, ↓reduceIte]
      by_cases e0 : y < 6
      · rw [if_pos e0, if_pos e0]
      rw [if_neg e0, if_neg e0]
      exact absurd d (by omega)
    · obtain ⟨x, rfl⟩ : ∃ x, y = 6 + x := ⟨y - 6, by omega⟩
      rw [tt_17 _ (by omega), pF_at, if_pos rfl, h2 x (by omega), h.1 36 (by unfold BQ; omega)]
  · simp (disch := omega) only [fX6_rows_S10, ck1, bd1, bx1, bx2, aS_at, iS_at, upd_at, ↓reduceIte, Nat.reduceEqDiff, Nat.reduceAdd, Nat.reduceMul, Nat.reduceSub, Nat.reduceDiv, Nat.reduceLT, Nat.reduceLeDiff, Nat.reduceBEq, ne_eq, not_true_eq_false, not_false_eq_true, reduceCtorEq, if_true, if_false, eq_self, Nat.add_zero, Nat.zero_add, lit, lit_nn, I_nat, I_add, I_mul, I_sub, I_div, inb_t, I_ne, I_nn, nn_I, nn_lt, nn_le, lt_nn, le_nn, I_t, I_f, I_lt_t, I_lt_f, isb_0, isb_1, vz_0, vz_1, nn_nat, h1, I01]
theorem bs_2 {b m : St} (h : Bak_q 12 b m) : ∃ m', Bak_q 18 b m' ∧ ∀ rec, fX6_rows_S10 rec (I 1) m (I 12) (I 2) = rec (m', I 18, I 3) := by
  obtain ⟨f, h1, h2⟩ := back_18 m
  refine ⟨pF m 18 f, ⟨fun q hq => ?_, fun y hy => ?_⟩, fun rec => ?_⟩
  · rw [pF_at, if_neg (fun e => hq (by unfold BQ; omega))]
    exact h.1 q hq
  · by_cases d : y < 12
    · rw [← h.2 y d]
      unfold TT
      simp only [pF_at, Nat.reduceEqDiff, ↓reduceIte]
      by_cases e0 : y < 6
      · rw [if_pos e0, if_pos e0]
      rw [if_neg e0, if_neg e0]
      by_cases e1 : y < 12
      · rw [if_pos e1, if_pos e1]
      rw [if_neg e1, if_neg e1]
      exact absurd d (by omega)
    · obtain ⟨x, rfl⟩ : ∃ x, y = 12 + x := ⟨y - 12, by omega⟩
      rw [tt_18 _ (by omega), pF_at, if_pos rfl, h2 x (by omega), h.1 36 (by unfold BQ; omega)]
  · simp (disch := omega) only [fX6_rows_S10, ck1, bd1, bx1, bx2, aS_at, iS_at, upd_at, ↓reduceIte, Nat.reduceEqDiff, Nat.reduceAdd, Nat.reduceMul, Nat.reduceSub, Nat.reduceDiv, Nat.reduceLT, Nat.reduceLeDiff, Nat.reduceBEq, ne_eq, not_true_eq_false, not_false_eq_true, reduceCtorEq, if_true, if_false, eq_self, Nat.add_zero, Nat.zero_add, lit, lit_nn, I_nat, I_add, I_mul, I_sub, I_div, inb_t, I_ne, I_nn, nn_I, nn_lt, nn_le, lt_nn, le_nn, I_t, I_f, I_lt_t, I_lt_f, isb_0, isb_1, vz_0, vz_1, nn_nat, h1, I01]
theorem bs_3 {b m : St} (h : Bak_q 18 b m) : ∃ m', Bak_q 24 b m' ∧ ∀ rec, fX6_rows_S10 rec (I 1) m (I 18) (I 3) = rec (m', I 24, I 4) := by
  obtain ⟨f, h1, h2⟩ := back_19 m
  refine ⟨pF m 19 f, ⟨fun q hq => ?_, fun y hy => ?_⟩, fun rec => ?_⟩
  · rw [pF_at, if_neg (fun e => hq (by unfold BQ; omega))]
    exact h.1 q hq
  · by_cases d : y < 18
    · rw [← h.2 y d]
      unfold TT
      simp only [pF_at, Nat.reduceEqDiff, ↓reduceIte]
      by_cases e0 : y < 6
      · rw [if_pos e0, if_pos e0]
      rw [if_neg e0, if_neg e0]
      by_cases e1 : y < 12
      · rw [if_pos e1, if_pos e1]
      rw [if_neg e1, if_neg e1]
      by_cases e2 : y < 18
      · rw [if_pos e2, if_pos e2]
      rw [if_neg e2, if_neg e2]
      exact absurd d (by omega)
    · obtain ⟨x, rfl⟩ : ∃ x, y = 18 + x := ⟨y - 18, by omega⟩
      rw [tt_19 _ (by omega), pF_at, if_pos rfl, h2 x (by omega), h.1 36 (by unfold BQ; omega)]
  · simp (disch := omega) only [fX6_rows_S10, ck1, bd1, bx1, bx2, aS_at, iS_at, upd_at, ↓reduceIte, Nat.reduceEqDiff, Nat.reduceAdd, Nat.reduceMul, Nat.reduceSub, Nat.reduceDiv, Nat.reduceLT, Nat.reduceLeDiff, Nat.reduceBEq, ne_eq, not_true_eq_false, not_false_eq_true, reduceCtorEq, if_true, if_false, eq_self, Nat.add_zero, Nat.zero_add, lit, lit_nn, I_nat, I_add, I_mul, I_sub, I_div, inb_t, I_ne, I_nn, nn_I, nn_lt, nn_le, lt_nn, le_nn, I_t, I_f, I_lt_t, I_lt_f, isb_0, isb_1, vz_0, vz_1, nn_nat, h1, I01]
theorem bs_4 {b m : St} (h : Bak_q 24 b m) : ∃ m', Bak_q 54 b m' ∧ ∀ rec, fX6_rows_S10 rec (I 1) m (I 24) (I 4) = rec (m', I 54, I 5) := by
  obtain ⟨f, h1, h2⟩ := back_13 m
  refine ⟨pF m 13 f, ⟨fun q hq => ?_, fun y hy => ?_⟩, fun rec => ?_⟩
  · rw [pF_at, if_neg (fun e => hq (by unfold BQ; omega))]
    exact h.1 q hq
  · by_cases d : y < 24
    · rw [← h.2 y d]
      unfold TT
      simp only [pF_at, Nat.reduceEqDiff, ↓reduceIte]
      by_cases e0 : y < 6
      · rw [if_pos e0, if_pos e0]
      rw [if_neg e0, if_neg e0]
      by_cases e1 : y < 12
      · rw [if_pos e1, if_pos e1]
      rw [if_neg e1, if_neg e1]
      by_cases e2 : y < 18
      · rw [if_pos e2, if_pos e2]
      rw [if_neg e2, if_neg e2]
      by_cases e3 : y < 24
      · rw [if_pos e3, if_pos e3]
      rw [if_neg e3, if_neg e3]
      exact absurd d (by omega)
    · obtain ⟨x, rfl⟩ : ∃ x, y = 24 + x := ⟨y - 24, by omega⟩
      rw [tt_13 _ (by omega), pF_at, if_pos rfl, h2 x (by omega), h.1 36 (by unfold BQ; omega)]
  · simp (disch := omega) only [fX6_rows_S10, ck1, bd1, bx1, bx2, aS_at, iS_at, upd_at, ↓reduceIte, Nat.reduceEqDiff, Nat.reduceAdd, Nat.reduceMul, Nat.reduceSub, Nat.reduceDiv, Nat.reduceLT, Nat.reduceLeDiff, Nat.reduceBEq, ne_eq, not_true_eq_false, not_false_eq_true, reduceCtorEq, if_true, if_false, eq_self, Nat.add_zero, Nat.zero_add, lit, lit_nn, I_nat, I_add, I_mul, I_sub, I_div, inb_t, I_ne, I_nn, nn_I, nn_lt, nn_le, lt_nn, le_nn, I_t, I_f, I_lt_t, I_lt_f, isb_0, isb_1, vz_0, vz_1, nn_nat, h1, I01]
theorem bs_5 {b m : St} (h : Bak_q 54 b m) : ∃ m', Bak_q 84 b m' ∧ ∀ rec, fX6_rows_S10 rec (I 1) m (I 54) (I 5) = rec (m', I 84, I 6) := by
  obtain ⟨f, h1, h2⟩ := back_14 m
  refine ⟨pF m 14 f, ⟨fun q hq => ?_, fun y hy => ?_⟩, fun rec => ?_⟩
  · rw [pF_at, if_neg (fun e => hq (by unfold BQ; omega))]
    exact h.1 q hq
  · by_cases d : y < 54
    · rw [← h.2 y d]
      unfold TT
      simp only [pF_at, Nat.reduceEqDiff, ↓reduceIte]
      by_cases e0 : y < 6
      · rw [if_pos e0, if_pos e0]
      rw [if_neg e0, if_neg e0]
      by_cases e1 : y < 12
      · rw [if_pos e1, if_pos e1]
      rw [if_neg e1, if_neg e1]
      by_cases e2 : y < 18
      · rw [if_pos e2, if_pos e2]
      rw [if_neg e2, if_neg e2]
      by_cases e3 : y < 24
      · rw [if_pos e3, if_pos e3]
      rw [if_neg e3, if_neg e3]
      by_cases e4 : y < 54
      · rw [if_pos e4, if_pos e4]
      rw [if_neg e4, if_neg e4]
      exact absurd d (by omega)
    · obtain ⟨x, rfl⟩ : ∃ x, y = 54 + x := ⟨y - 54, by omega⟩
      rw [tt_14 _ (by omega), pF_at, if_pos rfl, h2 x (by omega), h.1 36 (by unfold BQ; omega)]
  · simp (disch := omega) only [fX6_rows_S10, ck1, bd1, bx1, bx2, aS_at, iS_at, upd_at, ↓reduceIte, Nat.reduceEqDiff, Nat.reduceAdd, Nat.reduceMul, Nat.reduceSub, Nat.reduceDiv, Nat.reduceLT, Nat.reduceLeDiff, Nat.reduceBEq, ne_eq, not_true_eq_false, not_false_eq_true, reduceCtorEq, if_true, if_false, eq_self, Nat.add_zero, Nat.zero_add, lit, lit_nn, I_nat, I_add, I_mul, I_sub, I_div, inb_t, I_ne, I_nn, nn_I, nn_lt, nn_le, lt_nn, le_nn, I_t, I_f, I_lt_t, I_lt_f, isb_0, isb_1, vz_0, vz_1, nn_nat, h1, I01]
theorem bs_6 {b m : St} (h : Bak_q 84 b m) : ∃ m', Bak_q 114 b m' ∧ ∀ rec, fX6_rows_S10 rec (I 1) m (I 84) (I 6) = rec (m', I 114, I 7) := by
  obtain ⟨f, h1, h2⟩ := back_11 m
  refine ⟨pF m 11 f, ⟨fun q hq => ?_, fun y hy => ?_⟩, fun rec => ?_⟩
  · rw [pF_at, if_neg (fun e => hq (by unfold BQ; omega))]
    exact h.1 q hq
  · by_cases d : y < 84
    · rw [← h.2 y d]
      unfold TT
      simp only [pF_at, Nat.reduceEqDiff, ↓reduceIte]
      by_cases e0 : y < 6
      · rw [if_pos e0, if_pos e0]
      rw [if_neg e0, if_neg e0]
      by_cases e1 : y < 12
      · rw [if_pos e1, if_pos e1]
      rw [if_neg e1, if_neg e1]
      by_cases e2 : y < 18
      · rw [if_pos e2, if_pos e2]
      rw [if_neg e2, if_neg e2]
      by_cases e3 : y < 24
      · rw [if_pos e3, if_pos e3]
      rw [if_neg e3, if_neg e3]
      by_cases e4 : y < 54
      · rw [if_pos e4, if_pos e4]
      rw [if_neg e4, if_neg e4]
      by_cases e5 : y < 84
      · rw [if_pos e5, if_pos e5]
      rw [if_neg e5, if_neg e5]
      exact absurd d (by omega)
    · obtain ⟨x, rfl⟩ : ∃ x, y = 84 + x := ⟨y - 84, by omega⟩
      rw [tt_11 _ (by omega), pF_at, if_pos rfl, h2 x (by omega), h.1 36 (by unfold BQ; omega)]
  · simp (disch := omega) only [fX6_rows_S10, ck1, bd1, bx1, bx2, aS_at, iS_at, upd_at, ↓reduceIte, Nat.reduceEqDiff, Nat.reduceAdd, Nat.reduceMul, Nat.reduceSub, Nat.reduceDiv, Nat.reduceLT, Nat.reduceLeDiff, Nat.reduceBEq, ne_eq, not_true_eq_false, not_false_eq_true, reduceCtorEq, if_true, if_false, eq_self, Nat.add_zero, Nat.zero_add, lit, lit_nn, I_nat, I_add, I_mul, I_sub, I_div, inb_t, I_ne, I_nn, nn_I, nn_lt, nn_le, lt_nn, le_nn, I_t, I_f, I_lt_t, I_lt_f, isb_0, isb_1, vz_0, vz_1, nn_nat, h1, I01]
theorem bs_7 {b m : St} (h : Bak_q 114 b m) : ∃ m', Bak_q 144 b m' ∧ ∀ rec, fX6_rows_S10 rec (I 1) m (I 114) (I 7) = rec (m', I 144, I 8) := by
  obtain ⟨f, h1, h2⟩ := back_15 m
  refine ⟨pF m 15 f, ⟨fun q hq => ?_, fun y hy => ?_⟩, fun rec => ?_⟩
  · rw [pF_at, if_neg (fun e => hq (by unfold BQ; omega))]
    exact h.1 q hq
  · by_cases d : y < 114
    · rw [← h.2 y d]
      unfold TT
      simp only [pF_at, Nat.reduceEqDiff, ↓reduceIte]
      by_cases e0 : y < 6
      · rw [if_pos e0, if_pos e0]
      rw [if_neg e0, if_neg e0]
      by_cases e1 : y < 12
      · rw [if_pos e1, if_pos e1]
      rw [if_neg e1, if_neg e1]
      by_cases e2 : y < 18
      · rw [if_pos e2, if_pos e2]
      rw [if_neg e2, if_neg e2]
      by_cases e3 : y < 24
      · rw [if_pos e3, if_pos e3]
      rw [if_neg e3, if_neg e3]
      by_cases e4 : y < 54
      · rw [if_pos e4, if_pos e4]
      rw [if_neg e4, if_neg e4]
      by_cases e5 : y < 84
      · rw [if_pos e5, if_pos e5]
      rw [if_neg e5, if_neg e5]
      by_cases e6 : y < 114
      · rw [if_pos e6, if_pos e6]
      rw [if_neg e6, if_neg e6]
      exact absurd d (by omega)
    · obtain ⟨x, rfl⟩ : ∃ x, y = 114 + x := ⟨y - 114, by omega⟩
      rw [tt_15 _ (by omega), pF_at, if_pos rfl, h2 x (by omega), h.1 36 (by unfold BQ; omega)]
  · simp (disch := omega) only [fX6_rows_S10, ck1, bd1, bx1, bx2, aS_at, iS_at, upd_at, ↓reduceIte, Nat.reduceEqDiff, Nat.reduceAdd, Nat.reduceMul, Nat.reduceSub, Nat.reduceDiv, Nat.reduceLT, Nat.reduceLeDiff, Nat.reduceBEq, ne_eq, not_true_eq_false, not_false_eq_true, reduceCtorEq, if_true, if_false, eq_self, Nat.add_zero, Nat.zero_add, lit, lit_nn, I_nat, I_add, I_mul, I_sub, I_div, inb_t, I_ne, I_nn, nn_I, nn_lt, nn_le, lt_nn, le_nn, I_t, I_f, I_lt_t, I_lt_f, isb_0, isb_1, vz_0, vz_1, nn_nat, h1, I01]
theorem bs_8 {b m : St} (h : Bak_q 144 b m) : ∃ m', Bak_q 150 b m' ∧ ∀ rec, fX6_rows_S10 rec (I 1) m (I 144) (I 8) = rec (m', I 150, I 9) := by
  obtain ⟨f, h1, h2⟩ := back_24 m
  refine ⟨pF m 24 f, ⟨fun q hq => ?_, fun y hy => ?_⟩, fun rec => ?_⟩
  · rw [pF_at, if_neg (fun e => hq (by unfold BQ; omega))]
    exact h.1 q hq
  · by_cases d : y < 144
    · rw [← h.2 y d]
      unfold TT
      simp only [pF_at, Nat.reduceEqDiff, ↓reduceIte]
      by_cases e0 : y < 6
      · rw [if_pos e0, if_pos e0]
      rw [if_neg e0, if_neg e0]
      by_cases e1 : y < 12
      · rw [if_pos e1, if_pos e1]
      rw [if_neg e1, if_neg e1]
      by_cases e2 : y < 18
      · rw [if_pos e2, if_pos e2]
      rw [if_neg e2, if_neg e2]
      by_cases e3 : y < 24
      · rw [if_pos e3, if_pos e3]
      rw [if_neg e3, if_neg e3]
      by_cases e4 : y < 54
      · rw [if_pos e4, if_pos e4]
      rw [if_neg e4, if_neg e4]
      by_cases e5 : y < 84
      · rw [if_pos e5, if_pos e5]
      rw [if_neg e5, if_neg e5]
      by_cases e6 : y < 114
      · rw [if_pos e6, if_pos e6]
      rw [if_neg e6, if_neg e6]
      by_cases e7 : y < 144
      · rw [if_pos e7, if_pos e7]
      rw [if_neg e7, if_neg e7]
      exact absurd d (by omega)
    · obtain ⟨x, rfl⟩ : ∃ x, y = 144 + x := ⟨y - 144, by omega⟩
      rw [tt_24 _ (by omega), pF_at, if_pos rfl, h2 x (by omega), h.1 36 (by unfold BQ; omega)]
  · simp (disch := omega) only [fX6_rows_S10, ck1, bd1, bx1, bx2, aS_at, iS_at, upd_at, ↓reduceIte, Nat.reduceEqDiff, Nat.reduceAdd, Nat.reduceMul, Nat.reduceSub, Nat.reduceDiv, Nat.reduceLT, Nat.reduceLeDiff, Nat.reduceBEq, ne_eq, not_true_eq_false, not_false_eq_true, reduceCtorEq, if_true, if_false, eq_self, Nat.add_zero, Nat.zero_add, lit, lit_nn, I_nat, I_add, I_mul, I_sub, I_div, inb_t, I_ne, I_nn, nn_I, nn_lt, nn_le, lt_nn, le_nn, I_t, I_f, I_lt_t, I_lt_f, isb_0, isb_1, vz_0, vz_1, nn_nat, h1, I01]
theorem bs_9 {b m : St} (h : Bak_q 150 b m) : ∃ m', Bak_q 198 b m' ∧ ∀ rec, fX6_rows_S10 rec (I 1) m (I 150) (I 9) = rec (m', I 198, I 10) := by
  obtain ⟨f, h1, h2⟩ := back_25 m
  refine ⟨pF m 25 f, ⟨fun q hq => ?_, fun y hy => ?_⟩, fun rec => ?_⟩
  · rw [pF_at, if_neg (fun e => hq (by unfold BQ; omega))]
    exact h.1 q hq
  · by_cases d : y < 150
    · rw [← h.2 y d]
      unfold TT
      simp only [pF_at, Nat.reduceEqDiff, ↓reduceIte]
      by_cases e0 : y < 6
      · rw [if_pos e0, if_pos e0]
      rw [if_neg e0, if_neg e0]
      by_cases e1 : y < 12
      · rw [if_pos e1, if_pos e1]
      rw [if_neg e1, if_neg e1]
      by_cases e2 : y < 18
      · rw [if_pos e2, if_pos e2]
      rw [if_neg e2, if_neg e2]
      by_cases e3 : y < 24
      · rw [if_pos e3, if_pos e3]
      rw [if_neg e3, if_neg e3]
      by_cases e4 : y < 54
      · rw [if_pos e4, if_pos e4]
      rw [if_neg e4, if_neg e4]
      by_cases e5 : y < 84
      · rw [if_pos e5, if_pos e5]
      rw [if_neg e5, if_neg e5]
      by_cases e6 : y < 114
      · rw [if_pos e6, if_pos e6]
      rw [if_neg e6, if_neg e6]
      by_cases e7 : y < 144
      · rw [if_pos e7, if_pos e7]
      rw [if_neg e7, if_neg e7]
      by_cases e8 : y < 150
      · rw [if_pos e8, if_pos e8]
      rw [if_neg e8, if_neg e8]
      exact absurd d (by omega)
    · obtain ⟨x, rfl⟩ : ∃ x, y = 150 + x := ⟨y - 150, by omega⟩
      rw [tt_25 _ (by omega), pF_at, if_pos rfl, h2 x (by omega), h.1 36 (by unfold BQ; omega)]
  · simp (disch := omega) only [fX6_rows_S10, ck1, bd1, bx1, bx2, aS_at, iS_at, upd_at, ↓reduceIte, Nat.reduceEqDiff, Nat.reduceAdd, Nat.reduceMul, Nat.reduceSub, Nat.reduceDiv, Nat.reduceLT, Nat.reduceLeDiff, Nat.reduceBEq, ne_eq, not_true_eq_false, not_false_eq_true, reduceCtorEq, if_true, if_false, eq_self, Nat.add_zero, Nat.zero_add, lit, lit_nn, I_nat, I_add, I_mul, I_sub, I_div, inb_t, I_ne, I_nn, nn_I, nn_lt, nn_le, lt_nn, le_nn, I_t, I_f, I_lt_t, I_lt_f, isb_0, isb_1, vz_0, vz_1, nn_nat, h1, I01]
theorem bs_10 {b m : St} (h : Bak_q 198 b m) : ∃ m', Bak_q 246 b m' ∧ ∀ rec, fX6_rows_S10 rec (I 1) m (I 198) (I 10) = rec (m', I 246, I 11) := by
  obtain ⟨f, h1, h2⟩ := back_26 m
  refine ⟨pF m 26 f, ⟨fun q hq => ?_, fun y hy => ?_⟩, fun rec => ?_⟩
  · rw [pF_at, if_neg (fun e => hq (by unfold BQ; omega))]
    exact h.1 q hq
  · by_cases d : y < 198
    · rw [← h.2 y d]
      unfold TT
      simp only [pF_at, Nat.reduceEqDiff, ↓reduceIte]
      by_cases e0 : y < 6
      · rw [if_pos e0, if_pos e0]
      rw [if_neg e0, if_neg e0]
      by_cases e1 : y < 12
      · rw [if_pos e1, if_pos e1]
      rw [if_neg e1, if_neg e1]
      by_cases e2 : y < 18
      · rw [if_pos e2, if_pos e2]
      rw [if_neg e2, if_neg e2]
      by_cases e3 : y < 24
      · rw [if_pos e3, if_pos e3]
      rw [if_neg e3, if_neg e3]
      by_cases e4 : y < 54
      · rw [if_pos e4, if_pos e4]
      rw [if_neg e4, if_neg e4]
      by_cases e5 : y < 84
      · rw [if_pos e5, if_pos e5]
      rw [if_neg e5, if_neg e5]
      by_cases e6 : y < 114
      · rw [if_pos e6, if_pos e6]
      rw [if_neg e6, if_neg e6]
      by_cases e7 : y < 144
      · rw [if_pos e7, if_pos e7]
      rw [if_neg e7, if_neg e7]
      by_cases e8 : y < 150
      · rw [if_pos e8, if_pos e8]
      rw [if_neg e8, if_neg e8]
      by_cases e9 : y < 198
      · rw [if_pos e9, if_pos e9]
      rw [if_neg e9, if_neg e9]
      exact absurd d (by omega)
    · obtain ⟨x, rfl⟩ : ∃ x, y = 198 + x := ⟨y - 198, by omega⟩
      rw [tt_26 _ (by omega), pF_at, if_pos rfl, h2 x (by omega), h.1 36 (by unfold BQ; omega)]
  · simp (disch := omega) only [fX6_rows_S10, ck1, bd1, bx1, bx2, aS_at, iS_at, upd_at, ↓reduceIte, Nat.reduceEqDiff, Nat.reduceAdd, Nat.reduceMul, Nat.reduceSub, Nat.reduceDiv, Nat.reduceLT, Nat.reduceLeDiff, Nat.reduceBEq, ne_eq, not_true_eq_false, not_false_eq_true, reduceCtorEq, if_true, if_false, eq_self, Nat.add_zero, Nat.zero_add, lit, lit_nn, I_nat, I_add, I_mul, I_sub, I_div, inb_t, I_ne, I_nn, nn_I, nn_lt, nn_le, lt_nn, le_nn, I_t, I_f, I_lt_t, I_lt_f, isb_0, isb_1, vz_0, vz_1, nn_nat, h1, I01]
theorem bs_11 {b m : St} (h : Bak_q 246 b m) : ∃ m', Bak_q 294 b m' ∧ ∀ rec, fX6_rows_S10 rec (I 1) m (I 246) (I 11) = rec (m', I 294, I 12) := by
  obtain ⟨f, h1, h2⟩ := back_27 m
  refine ⟨pF m 27 f, ⟨fun q hq => ?_, fun y hy => ?_⟩, fun rec => ?_⟩
  · rw [pF_at, if_neg (fun e => hq (by unfold BQ; omega))]
    exact h.1 q hq
  · by_cases d : y < 246
    · rw [← h.2 y d]
      unfold TT
      simp only [pF_at, Nat.reduceEqDiff, ↓reduceIte]
      by_cases e0 : y < 6
      · rw [if_pos e0, if_pos e0]
      rw [if_neg e0, if_neg e0]
      by_cases e1 : y < 12
      · rw [if_pos e1, if_pos e1]
      rw [if_neg e1, if_neg e1]
      by_cases e2 : y < 18
      · rw [if_pos e2, if_pos e2]
      rw [if_neg e2, if_neg e2]
      by_cases e3 : y < 24
      · rw [if_pos e3, if_pos e3]
      rw [if_neg e3, if_neg e3]
      by_cases e4 : y < 54
      · rw [if_pos e4, if_pos e4]
      rw [if_neg e4, if_neg e4]
      by_cases e5 : y < 84
      · rw [if_pos e5, if_pos e5]
      rw [if_neg e5, if_neg e5]
      by_cases e6 : y < 114
      · rw [if_pos e6, if_pos e6]
      rw [if_neg e6, if_neg e6]
      by_cases e7 : y < 144
      · rw [if_pos e7, if_pos e7]
      rw [if_neg e7, if_neg e7]
      by_cases e8 : y < 150
      · rw [if_pos e8, if_pos e8]
      rw [if_neg e8, if_neg e8]
      by_cases e9 : y < 198
      · rw [if_pos e9, if_pos e9]
      rw [if_neg e9, if_neg e9]
      by_cases e10 : y < 246
      · rw [if_pos e10, if_pos e10]
      rw [if_neg e10, if_neg e10]
      exact absurd d (by omega)
    · obtain ⟨x, rfl⟩ : ∃ x, y = 246 + x := ⟨y - 246, by omega⟩
      rw [tt_27 _ (by omega), pF_at, if_pos rfl, h2 x (by omega), h.1 36 (by unfold BQ; omega)]
  · simp (disch := omega) only [fX6_rows_S10, ck1, bd1, bx1, bx2, aS_at, iS_at, upd_at, ↓reduceIte, Nat.reduceEqDiff, Nat.reduceAdd, Nat.reduceMul, Nat.reduceSub, Nat.reduceDiv, Nat.reduceLT, Nat.reduceLeDiff, Nat.reduceBEq, ne_eq, not_true_eq_false, not_false_eq_true, reduceCtorEq, if_true, if_false, eq_self, Nat.add_zero, Nat.zero_add, lit, lit_nn, I_nat, I_add, I_mul, I_sub, I_div, inb_t, I_ne, I_nn, nn_I, nn_lt, nn_le, lt_nn, le_nn, I_t, I_f, I_lt_t, I_lt_f, isb_0, isb_1, vz_0, vz_1, nn_nat, h1, I01]
theorem bs_12 {b m : St} (h : Bak_q 294 b m) : ∃ m', Bak_q 342 b m' ∧ ∀ rec, fX6_rows_S10 rec (I 1) m (I 294) (I 12) = rec (m', I 342, I 13) := by
  obtain ⟨f, h1, h2⟩ := back_28 m
  refine ⟨pF m 28 f, ⟨fun q hq => ?_, fun y hy => ?_⟩, fun rec => ?_⟩
  · rw [pF_at, if_neg (fun e => hq (by unfold BQ; omega))]
    exact h.1 q hq
  · by_cases d : y < 294
    · rw [← h.2 y d]
      unfold TT
      simp only [pF_at, Nat.reduceEqDiff, ↓reduceIte]
      by_cases e0 : y < 6
      · rw [if_pos e0, if_pos e0]
      rw [if_neg e0, if_neg e0]
      by_cases e1 : y < 12
      · rw [if_pos e1, if_pos e1]
      rw [if_neg e1, if_neg e1]
      by_cases e2 : y < 18
      · rw [if_pos e2, if_pos e2]
      rw [if_neg e2, if_neg e2]
      by_cases e3 : y < 24
      · rw [if_pos e3, if_pos e3]
      rw [if_neg e3, if_neg e3]
      by_cases e4 : y < 54
      · rw [if_pos e4, if_pos e4]
      rw [if_neg e4, if_neg e4]
      by_cases e5 : y < 84
      · rw [if_pos e5, if_pos e5]
      rw [if_neg e5, if_neg e5]
      by_cases e6 : y < 114
      · rw [if_pos e6, if_pos e6]
      rw [if_neg e6, if_neg e6]
      by_cases e7 : y < 144
      · rw [if_pos e7, if_pos e7]
      rw [if_neg e7, if_neg e7]
      by_cases e8 : y < 150
      · rw [if_pos e8, if_pos e8]
      rw [if_neg e8, if_neg e8]
      by_cases e9 : y < 198
      · rw [if_pos e9, if_pos e9]
      rw [if_neg e9, if_neg e9]
      by_cases e10 : y < 246
      · rw [if_pos e10, if_pos e10]
      rw [if_neg e10, if_neg e10]
      by_cases e11 : y < 294
      · rw [if_pos e11, if_pos e11]
      rw [if_neg e11, if_neg e11]
      exact absurd d (by omega)
    · obtain ⟨x, rfl⟩ : ∃ x, y = 294 + x := ⟨y - 294, by omega⟩
      rw [tt_28 _ (by omega), pF_at, if_pos rfl, h2 x (by omega), h.1 36 (by unfold BQ; omega)]
  · simp (disch := omega) only [fX6_rows_S10, ck1, bd1, bx1, bx2, aS_at, iS_at, upd_at, ↓reduceIte, Nat.reduceEqDiff, Nat.reduceAdd, Nat.reduceMul, Nat.reduceSub, Nat.reduceDiv, Nat.reduceLT, Nat.reduceLeDiff, Nat.reduceBEq, ne_eq, not_true_eq_false, not_false_eq_true, reduceCtorEq, if_true, if_false, eq_self, Nat.add_zero, Nat.zero_add, lit, lit_nn, I_nat, I_add, I_mul, I_sub, I_div, inb_t, I_ne, I_nn, nn_I, nn_lt, nn_le, lt_nn, le_nn, I_t, I_f, I_lt_t, I_lt_f, isb_0, isb_1, vz_0, vz_1, nn_nat, h1, I01]
theorem rows_back (b : St) : ∃ m, fX6_rows b (I 1) = fX6_rows_J213 m (I 1) ∧ Bak_q 342 b m := by
  obtain ⟨m, h1, h2⟩ := loop_up (σ := St) (step := fun k a' => fX6_rows_S10 k (I 1) (a'.1) (a'.2.1) (a'.2.2)) (fun i m => (m, I (offs i), I i)) 13 (fun i m => Bak_q (offs i) b m) (fun m => fX6_rows_J213 m (I 1))
    (by
      intro i m hi h
      match i, hi, h with
      | 0, _, h => exact bs_0 h
      | 1, _, h => exact bs_1 h
      | 2, _, h => exact bs_2 h
      | 3, _, h => exact bs_3 h
      | 4, _, h => exact bs_4 h
      | 5, _, h => exact bs_5 h
      | 6, _, h => exact bs_6 h
      | 7, _, h => exact bs_7 h
      | 8, _, h => exact bs_8 h
      | 9, _, h => exact bs_9 h
      | 10, _, h => exact bs_10 h
      | 11, _, h => exact bs_11 h
      | 12, _, h => exact bs_12 h
      | i + 13, hi, _ => omega)
    (by
      intro m _ rec
      simp (disch := omega) only [fX6_rows_S10, ck1, bd1, bx1, bx2, aS_at, iS_at, upd_at, ↓reduceIte, Nat.reduceEqDiff, Nat.reduceAdd, Nat.reduceMul, Nat.reduceSub, Nat.reduceDiv, Nat.reduceLT, Nat.reduceLeDiff, Nat.reduceBEq, ne_eq, not_true_eq_false, not_false_eq_true, reduceCtorEq, if_true, if_false, eq_self, Nat.add_zero, Nat.zero_add, lit, lit_nn, I_nat, I_add, I_mul, I_sub, I_div, inb_t, I_ne, I_nn, nn_I, nn_lt, nn_le, lt_nn, le_nn, I_t, I_f, I_lt_t, I_lt_f, isb_0, isb_1, vz_0, vz_1, nn_nat])
    13 0 b 1000 (by omega) (by omega) ⟨fun _ _ => rfl, fun y hy => absurd hy (Nat.not_lt_zero _)⟩
  refine ⟨m, ?_, h1⟩
  unfold fX6_rows fX6_rows_L10
  rw [lit]
  exact h2
theorem vz {x : Int32} (h : isI 2 x) : vp_nar .boolean x = x := by
  rcases isI2 h with e | e
  · rw [e, vz_0]
  · rw [e, vz_1]
theorem flags_keep (m : St) (h12 : ∀ k, k < 30 → isI 2 (m 12 k)) (h10 : ∀ k, k < 30 → isI 2 (m 10 k)) : ∃ c, fX6_rows_J213 m (I 0) = some (pF m 37 c) ∧ ∀ k, k < 30 → c k = m 12 k ∧ c (30 + k) = m 10 k := by
  obtain ⟨c, u, hl⟩ := loop_up (σ := Nat → Int32) (step := fun k a => fX6_rows_S216 k (I 0) (a.1) (a.2)) (fun t c => (pF m 37 c, I t)) 30 (fun t c => ∀ k, k < t → c k = m 12 k ∧ c (30 + k) = m 10 k) (fun c => some (pF m 37 c))
    (by
      intro t c ht u
      have v12 := vz (h12 t ht)
      have v10 := vz (h10 t ht)
      have m12 : ∀ g, (pF m 37 g) 12 = m 12 := fun _ => rfl
      have m10 : ∀ g, (pF m 37 g) 10 = m 10 := fun _ => rfl
      refine ⟨upd (upd c t (m 12 t)) (30 + t) (m 10 t), fun k hk => ?_, fun rec => ?_⟩
      · simp only [upd_at]
        by_cases d : k = t
        · subst d
          rw [if_neg (by omega), if_pos rfl, if_pos rfl]
          exact ⟨rfl, rfl⟩
        · rw [if_neg (by omega), if_neg d, if_neg (by omega), if_neg (by omega)]
          exact u k (by omega)
      · simp (disch := omega) only [fX6_rows_S216, fX6_rows_J258, aS_pF, ck1, bd1, bx1, bx2, aS_at, iS_at, upd_at, ↓reduceIte, Nat.reduceEqDiff, Nat.reduceAdd, Nat.reduceMul, Nat.reduceSub, Nat.reduceDiv, Nat.reduceLT, Nat.reduceLeDiff, Nat.reduceBEq, ne_eq, not_true_eq_false, not_false_eq_true, reduceCtorEq, if_true, if_false, eq_self, Nat.add_zero, Nat.zero_add, lit, lit_nn, I_nat, I_add, I_mul, I_sub, I_div, inb_t, I_ne, I_nn, nn_I, nn_lt, nn_le, lt_nn, le_nn, I_t, I_f, I_lt_t, I_lt_f, isb_0, isb_1, vz_0, vz_1, nn_nat, m12, m10, v12, v10])
    (by
      intro c _ rec
      simp (disch := omega) only [fX6_rows_S216, ck1, bd1, bx1, bx2, aS_at, iS_at, upd_at, ↓reduceIte, Nat.reduceEqDiff, Nat.reduceAdd, Nat.reduceMul, Nat.reduceSub, Nat.reduceDiv, Nat.reduceLT, Nat.reduceLeDiff, Nat.reduceBEq, ne_eq, not_true_eq_false, not_false_eq_true, reduceCtorEq, if_true, if_false, eq_self, Nat.add_zero, Nat.zero_add, lit, lit_nn, I_nat, I_add, I_mul, I_sub, I_div, inb_t, I_ne, I_nn, nn_I, nn_lt, nn_le, lt_nn, le_nn, I_t, I_f, I_lt_t, I_lt_f, isb_0, isb_1, vz_0, vz_1, nn_nat])
    30 0 (m 37) 1000 (by omega) (by omega) (fun k hk => by omega)
  refine ⟨c, ?_, u⟩
  rw [pF_self] at hl
  unfold fX6_rows_J213 fX6_rows_L216
  rw [lit]
  exact hl
theorem p3_at (σ : St) (a b c : Nat) (f g h : Nat → Int32) (q : Nat) : p3 σ a b c f g h q = if q = c then h else if q = b then g else if q = a then f else σ q := by
  simp only [p3, pF_at]
theorem flags_back (m : St) (h37 : ∀ k, k < 60 → isI 2 (m 37 k)) : ∃ f g c, fX6_rows_J213 m (I 1) = some (p3 m 12 10 37 f g c) ∧ ∀ k, k < 30 → f k = m 37 k ∧ g k = m 37 (30 + k) := by
  obtain ⟨s, ⟨u1, u2⟩, hl⟩ := loop_up (σ := (Nat → Int32) × (Nat → Int32) × (Nat → Int32)) (step := fun k a => fX6_rows_S216 k (I 1) (a.1) (a.2)) (fun t s => (p3 m 12 10 37 s.1 s.2.1 s.2.2, I t)) 30 (fun t s => (∀ k, k < t → s.1 k = m 37 k ∧ s.2.1 k = m 37 (30 + k)) ∧ ∀ y, y < 60 → s.2.2 y = m 37 y) (fun s => some (p3 m 12 10 37 s.1 s.2.1 s.2.2))
    (by
      intro t s ht ⟨u1, u2⟩
      have v1 := vz (h37 t (by omega))
      have v2 := vz (h37 (30 + t) (by omega))
      have w1 := u2 t (by omega)
      have w2 := u2 (30 + t) (by omega)
      have q12 : ∀ f g c, (p3 m 12 10 37 f g c) 12 = f := fun _ _ _ => rfl
      have q10 : ∀ f g c, (p3 m 12 10 37 f g c) 10 = g := fun _ _ _ => rfl
      have q37 : ∀ f g c, (p3 m 12 10 37 f g c) 37 = c := fun _ _ _ => rfl
      refine ⟨(upd s.1 t (m 37 t), upd s.2.1 t (m 37 (30 + t)), upd (upd s.2.2 t (m 37 t)) (30 + t) (m 37 (30 + t))), ⟨fun k hk => ?_, fun y hy => ?_⟩, fun rec => ?_⟩
      · simp only [upd_at]
        by_cases d : k = t
        · rw [if_pos d, if_pos d, d]
          exact ⟨rfl, rfl⟩
        · rw [if_neg d, if_neg d]
          exact u1 k (by omega)
      · simp only [upd_at]
        by_cases d : y = 30 + t
        · rw [if_pos d, d]
        · rw [if_neg d]
          by_cases d2 : y = t
          · rw [if_pos d2, d2]
          · rw [if_neg d2]
            exact u2 y hy
      · simp (disch := omega) only [fX6_rows_S216, fX6_rows_J258, p3_a, p3_b, p3_c, ck1, bd1, bx1, bx2, aS_at, iS_at, upd_at, ↓reduceIte, Nat.reduceEqDiff, Nat.reduceAdd, Nat.reduceMul, Nat.reduceSub, Nat.reduceDiv, Nat.reduceLT, Nat.reduceLeDiff, Nat.reduceBEq, ne_eq, not_true_eq_false, not_false_eq_true, reduceCtorEq, if_true, if_false, eq_self, Nat.add_zero, Nat.zero_add, lit, lit_nn, I_nat, I_add, I_mul, I_sub, I_div, inb_t, I_ne, I_nn, nn_I, nn_lt, nn_le, lt_nn, le_nn, I_t, I_f, I_lt_t, I_lt_f, isb_0, isb_1, vz_0, vz_1, nn_nat, q12, q10, q37, w1, w2, v1, v2, I01])
    (by
      intro s _ rec
      simp (disch := omega) only [fX6_rows_S216, ck1, bd1, bx1, bx2, aS_at, iS_at, upd_at, ↓reduceIte, Nat.reduceEqDiff, Nat.reduceAdd, Nat.reduceMul, Nat.reduceSub, Nat.reduceDiv, Nat.reduceLT, Nat.reduceLeDiff, Nat.reduceBEq, ne_eq, not_true_eq_false, not_false_eq_true, reduceCtorEq, if_true, if_false, eq_self, Nat.add_zero, Nat.zero_add, lit, lit_nn, I_nat, I_add, I_mul, I_sub, I_div, inb_t, I_ne, I_nn, nn_I, nn_lt, nn_le, lt_nn, le_nn, I_t, I_f, I_lt_t, I_lt_f, isb_0, isb_1, vz_0, vz_1, nn_nat])
    30 0 (m 12, m 10, m 37) 1000 (by omega) (by omega) ⟨fun k hk => by omega, fun _ _ => rfl⟩
  refine ⟨s.1, s.2.1, s.2.2, ?_, u1⟩
  dsimp only at hl
  rw [p3_self] at hl
  unfold fX6_rows_J213 fX6_rows_L216
  rw [lit]
  exact hl

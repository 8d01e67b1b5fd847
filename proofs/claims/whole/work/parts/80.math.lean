theorem law_true (L : Nat) (xs : Nat → Int32) (hL : L ≤ 3072) : ∃ (cs cw ct cu cl cb cp mm : St), fX5_init = some (cs, cw, ct, cu, cl, cb, cp) ∧ fX6_init = some mm ∧ fL_law_L23 L xs cs cw ct cu cl cb cp mm (fun _ => 0) 0 = some 1 := by
  sorry

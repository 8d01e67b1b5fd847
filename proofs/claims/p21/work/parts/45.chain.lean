/-- the ports that are caught are forgotten, one after another -/
def fchain (c13 : Nat → Int32) : Nat → St → Option St
  | 0, c => some c
  | k + 1, c => match fchain c13 k c with
    | none => none
    | some d => if c13 k = I 0 then some d else fX2_forgetPort d (I k)
theorem fchain_pre {c13 : Nat → Int32} {c : St} : ∀ k t d, t ≤ k → fchain c13 k c = some d → ∃ e, fchain c13 t c = some e := by
  intro k
  induction k with
  | zero =>
    intro t d ht h
    have e : t = 0 := by omega
    subst e
    exact ⟨d, h⟩
  | succ k ih =>
    intro t d ht h
    by_cases z : t = k + 1
    · subst z; exact ⟨d, h⟩
    · cases q : fchain c13 k c with
      | none => simp only [fchain, q, reduceCtorEq] at h
      | some e => exact ih t e (by omega) q
theorem chain_run {cw ct cs cb d : St} (h : fchain (ct 13) 30 cb = some d) : ∃ cs', (∀ q, q ≠ 6 → cs' q = cs q) ∧ (∀ x, x < 30 → cs' 6 x = I 0) ∧ fX5_passBeat_L9 cw ct cs cb (I 0) = fX5_passBeat_J48 cs' cw ct d := by
  obtain ⟨s, ⟨h1, h2, h3⟩, hl⟩ := loop_up (σ := St × St) (step := fun k a => fX5_passBeat_S9 k cw ct (a.1) (a.2.1) (a.2.2)) (fun t s => (s.1, s.2, I t)) 30 (fun t s => fchain (ct 13) t cb = some s.2 ∧ (∀ q, q ≠ 6 → s.1 q = cs q) ∧ (∀ x, x < t → s.1 6 x = I 0)) (fun s => fX5_passBeat_J48 s.1 cw ct s.2)
    (by
      intro t s ht ⟨h1, h2, h3⟩
      obtain ⟨e, he⟩ := fchain_pre 30 (t + 1) d (by omega) h
      have he2 := he
      simp only [fchain, h1] at he2
      refine ⟨(aS s.1 6 (I t) (I 0), e), ⟨he, fun q hq => ?_, fun x hx => ?_⟩, fun rec => ?_⟩
      · simp only [aS_at, hq, ↓reduceIte]; exact h2 q hq
      · simp (disch := omega) only [ck1, bd1, bx1, bx2, aS_at, iS_at, upd_at, ↓reduceIte, Nat.reduceEqDiff, Nat.reduceAdd, Nat.reduceMul, Nat.reduceSub, Nat.reduceDiv, Nat.reduceLT, Nat.reduceLeDiff, Nat.reduceBEq, ne_eq, not_true_eq_false, not_false_eq_true, reduceCtorEq, if_true, if_false, eq_self, Nat.add_zero, Nat.zero_add, lit, lit_nn, I_nat, I_add, I_mul, I_sub, I_div, inb_t, I_ne, I_nn, nn_I, nn_lt, nn_le, lt_nn, le_nn, I_t, I_f, I_lt_t, I_lt_f, isb_0, isb_1, vz_0, vz_1, nn_nat]
        by_cases z : x = t
        · rw [if_pos z]
        · rw [if_neg z]; exact h3 x (by omega)
      · by_cases z : ct 13 t = I 0
        · rw [if_pos z, Option.some.injEq] at he2
          subst he2
          simp (disch := omega) only [fX5_passBeat_S9, ck1, bd1, bx1, bx2, aS_at, iS_at, upd_at, ↓reduceIte, Nat.reduceEqDiff, Nat.reduceAdd, Nat.reduceMul, Nat.reduceSub, Nat.reduceDiv, Nat.reduceLT, Nat.reduceLeDiff, Nat.reduceBEq, ne_eq, not_true_eq_false, not_false_eq_true, reduceCtorEq, if_true, if_false, eq_self, Nat.add_zero, Nat.zero_add, lit, lit_nn, I_nat, I_add, I_mul, I_sub, I_div, inb_t, I_ne, I_nn, nn_I, nn_lt, nn_le, lt_nn, le_nn, I_t, I_f, I_lt_t, I_lt_f, isb_0, isb_1, vz_0, vz_1, nn_nat, z]
        · rw [if_neg z] at he2
          simp (disch := omega) only [fX5_passBeat_S9, ck1, bd1, bx1, bx2, aS_at, iS_at, upd_at, ↓reduceIte, Nat.reduceEqDiff, Nat.reduceAdd, Nat.reduceMul, Nat.reduceSub, Nat.reduceDiv, Nat.reduceLT, Nat.reduceLeDiff, Nat.reduceBEq, ne_eq, not_true_eq_false, not_false_eq_true, reduceCtorEq, if_true, if_false, eq_self, Nat.add_zero, Nat.zero_add, lit, lit_nn, I_nat, I_add, I_mul, I_sub, I_div, inb_t, I_ne, I_nn, nn_I, nn_lt, nn_le, lt_nn, le_nn, I_t, I_f, I_lt_t, I_lt_f, isb_0, isb_1, vz_0, vz_1, nn_nat, z, he2])
    (by
      intro s _ rec
      simp (disch := omega) only [fX5_passBeat_S9, ck1, bd1, bx1, bx2, aS_at, iS_at, upd_at, ↓reduceIte, Nat.reduceEqDiff, Nat.reduceAdd, Nat.reduceMul, Nat.reduceSub, Nat.reduceDiv, Nat.reduceLT, Nat.reduceLeDiff, Nat.reduceBEq, ne_eq, not_true_eq_false, not_false_eq_true, reduceCtorEq, if_true, if_false, eq_self, Nat.add_zero, Nat.zero_add, lit, lit_nn, I_nat, I_add, I_mul, I_sub, I_div, inb_t, I_ne, I_nn, nn_I, nn_lt, nn_le, lt_nn, le_nn, I_t, I_f, I_lt_t, I_lt_f, isb_0, isb_1, vz_0, vz_1, nn_nat])
    30 0 (cs, cb) 1000 (by omega) (by omega) ⟨rfl, fun _ _ => rfl, fun x hx => by omega⟩
  rw [h, Option.some.injEq] at h1
  refine ⟨s.1, h2, h3, ?_⟩
  rw [h1]
  exact hl

theorem ref_old_in {m : St} {s n : Nat} {P : Nat → Nat} {c0 c1 : Nat → Int32} (hs : s < 6) (h : Ent (m 24) (m 25) (m 26) (m 27) (m 28) s n P c0 c1) : ∃ m' n' P' d0, (∀ k43, fX6_beats_L63 k43 (I s) m (I (8 * s + n) + nn) = k43 (m', I (s + 1))) ∧ Fr s m m' ∧ Ent (m' 24) (m' 25) (m' 26) (m' 27) (m' 28) s n' P' d0 c1 ∧ ∀ o, o < 30 → (c0 o ≠ nn ∧ ¬ (m 0 0 - c1 o < I 10) → d0 o = nn) ∧ (¬ (c0 o ≠ nn ∧ ¬ (m 0 0 - c1 o < I 10)) → d0 o = c0 o) := by
  exact down_ent (step := fun k43 k' a => fX6_beats_S63 k43 k' (I s) (a.1) (a.2)) (m := m) hs h (fun k43 mk => k43 (mk, I (s + 1))) (fun _ t => ¬ (m 0 0 - t < I 10))
    (fun k43 rec mk => by
      have e : (I (8 * s) + nn < I (8 * s)) = True := by rw [dn_lt (by omega) (by omega)]; exact eq_true (by omega)
      simp (disch := omega) only [fX6_beats_S63, ck1, bd1, bx1, bx2, aS_at, iS_at, upd_at, ↓reduceIte, Nat.reduceEqDiff, Nat.reduceAdd, Nat.reduceMul, Nat.reduceSub, Nat.reduceDiv, Nat.reduceLT, Nat.reduceLeDiff, Nat.reduceBEq, ne_eq, not_true_eq_false, not_false_eq_true, reduceCtorEq, if_true, if_false, eq_self, Nat.add_zero, Nat.zero_add, lit, lit_nn, I_nat, I_add, I_mul, I_sub, I_div, inb_t, I_ne, I_nn, nn_I, nn_lt, nn_le, lt_nn, le_nn, I_t, I_f, I_lt_t, I_lt_f, isb_0, isb_1, vz_0, vz_1, nn_nat, e])
    (fun k43 rec mk i e0 hi hn => by
      have hn2 := Classical.not_not.mp hn
      simp (disch := omega) only [fX6_beats_S63, ck1, bd1, bx1, bx2, aS_at, iS_at, upd_at, ↓reduceIte, Nat.reduceEqDiff, Nat.reduceAdd, Nat.reduceMul, Nat.reduceSub, Nat.reduceDiv, Nat.reduceLT, Nat.reduceLeDiff, Nat.reduceBEq, ne_eq, not_true_eq_false, not_false_eq_true, reduceCtorEq, if_true, if_false, eq_self, Nat.add_zero, Nat.zero_add, lit, lit_nn, I_nat, I_add, I_mul, I_sub, I_div, inb_t, I_ne, I_nn, nn_I, nn_lt, nn_le, lt_nn, le_nn, I_t, I_f, I_lt_t, I_lt_f, isb_0, isb_1, vz_0, vz_1, nn_nat, e0, hn2])
    (fun k43 rec mk mk' i e0 hi hn hd => by
      simp (disch := omega) only [fX6_beats_S63, ck1, bd1, bx1, bx2, aS_at, iS_at, upd_at, ↓reduceIte, Nat.reduceEqDiff, Nat.reduceAdd, Nat.reduceMul, Nat.reduceSub, Nat.reduceDiv, Nat.reduceLT, Nat.reduceLeDiff, Nat.reduceBEq, ne_eq, not_true_eq_false, not_false_eq_true, reduceCtorEq, if_true, if_false, eq_self, Nat.add_zero, Nat.zero_add, lit, lit_nn, I_nat, I_add, I_mul, I_sub, I_div, inb_t, I_ne, I_nn, nn_I, nn_lt, nn_le, lt_nn, le_nn, I_t, I_f, I_lt_t, I_lt_f, isb_0, isb_1, vz_0, vz_1, nn_nat, e0, hn, hd])
theorem ref_old {m : St} {c0 c1 : Nat → Int32} (h : ∀ s, s < 6 → ∃ n P, Ent (m 24) (m 25) (m 26) (m 27) (m 28) s n P (fun o => c0 (30 * s + o)) (fun o => c1 (30 * s + o))) : ∃ m', fX6_beats_L43 m (I 0) = fX6_beats_J105 m' ∧ (∀ q, q < 24 ∨ 28 < q → m' q = m q) ∧ ∀ s, s < 6 → ∃ n P d0, Ent (m' 24) (m' 25) (m' 26) (m' 27) (m' 28) s n P d0 (fun o => c1 (30 * s + o)) ∧ ∀ o, o < 30 → (c0 (30 * s + o) ≠ nn ∧ ¬ (m 0 0 - c1 (30 * s + o) < I 10) → d0 o = nn) ∧ (¬ (c0 (30 * s + o) ≠ nn ∧ ¬ (m 0 0 - c1 (30 * s + o) < I 10)) → d0 o = c0 (30 * s + o)) := by
  obtain ⟨Q, eQ⟩ : ∃ Q : Nat → St → Prop, Q = fun t mk => (∀ q, q < 24 ∨ 28 < q → mk q = m q) ∧ (∀ s, s < t → ∃ n P d0, Ent (mk 24) (mk 25) (mk 26) (mk 27) (mk 28) s n P d0 (fun o => c1 (30 * s + o)) ∧ ∀ o, o < 30 → (c0 (30 * s + o) ≠ nn ∧ ¬ (m 0 0 - c1 (30 * s + o) < I 10) → d0 o = nn) ∧ (¬ (c0 (30 * s + o) ≠ nn ∧ ¬ (m 0 0 - c1 (30 * s + o) < I 10)) → d0 o = c0 (30 * s + o))) ∧ (∀ s, t ≤ s → s < 6 → ∃ n P, Ent (mk 24) (mk 25) (mk 26) (mk 27) (mk 28) s n P (fun o => c0 (30 * s + o)) (fun o => c1 (30 * s + o))) := ⟨_, rfl⟩
  have hb : ∀ t mk, t < 6 → Q t mk → ∃ mk', Q (t + 1) mk' ∧ ∀ rec, fX6_beats_S43 rec mk (I t) = rec (mk', I (t + 1)) := by
    intro t mk ht hQ
    rw [eQ] at hQ
    obtain ⟨q1, q2, q3⟩ := hQ
    obtain ⟨n, P, e1⟩ := q3 t (by omega) ht
    obtain ⟨m0, n0, P0, d00, f0, f0', f0'', f0'''⟩ := ref_old_in ht e1
    refine ⟨m0, ?_, fun rec => ?_⟩
    · rw [eQ]
      have z0 : mk 0 = m 0 := q1 0 (by omega)
      refine ⟨fun q hq => (f0'.1 q hq).trans (q1 q hq), fun s hs => ?_, fun s hs1 hs2 => ?_⟩
      · by_cases d : s = t
        · subst d
          rw [z0] at f0'''
          exact ⟨n0, P0, d00, f0'', f0'''⟩
        · obtain ⟨n', P', d', a1, a2⟩ := q2 s (by omega)
          exact ⟨n', P', d', a1.ext (f0'.2.1 s d) (fun i hi => f0'.2.2 _ (by omega)) (fun o ho => ⟨rfl, fun _ => rfl⟩), a2⟩
      · obtain ⟨n', P', a1⟩ := q3 s (by omega) hs2
        exact ⟨n', P', a1.ext (f0'.2.1 s (by omega)) (fun i hi => f0'.2.2 _ (by omega)) (fun o ho => ⟨rfl, fun _ => rfl⟩)⟩
    · rw [← f0 rec]
      simp (disch := omega) only [fX6_beats_S43, ck1, bd1, bx1, bx2, aS_at, iS_at, upd_at, ↓reduceIte, Nat.reduceEqDiff, Nat.reduceAdd, Nat.reduceMul, Nat.reduceSub, Nat.reduceDiv, Nat.reduceLT, Nat.reduceLeDiff, Nat.reduceBEq, ne_eq, not_true_eq_false, not_false_eq_true, reduceCtorEq, if_true, if_false, eq_self, Nat.add_zero, Nat.zero_add, lit, lit_nn, I_nat, I_add, I_mul, I_sub, I_div, inb_t, I_ne, I_nn, nn_I, nn_lt, nn_le, lt_nn, le_nn, I_t, I_f, I_lt_t, I_lt_f, isb_0, isb_1, vz_0, vz_1, nn_nat, e1.2.1]
      simp only [sub_dn]
  have he : ∀ mk, Q 6 mk → ∀ rec, fX6_beats_S43 rec mk (I 6) = fX6_beats_J105 mk := by
    intro mk _ rec
    simp (disch := omega) only [fX6_beats_S43, ck1, bd1, bx1, bx2, aS_at, iS_at, upd_at, ↓reduceIte, Nat.reduceEqDiff, Nat.reduceAdd, Nat.reduceMul, Nat.reduceSub, Nat.reduceDiv, Nat.reduceLT, Nat.reduceLeDiff, Nat.reduceBEq, ne_eq, not_true_eq_false, not_false_eq_true, reduceCtorEq, if_true, if_false, eq_self, Nat.add_zero, Nat.zero_add, lit, lit_nn, I_nat, I_add, I_mul, I_sub, I_div, inb_t, I_ne, I_nn, nn_I, nn_lt, nn_le, lt_nn, le_nn, I_t, I_f, I_lt_t, I_lt_f, isb_0, isb_1, vz_0, vz_1, nn_nat]
  obtain ⟨m', hQ, hl⟩ := loop_up (step := fun k' a => fX6_beats_S43 k' (a.1) (a.2)) (fun t (mk : St) => (mk, I t)) 6 Q (fun mk => fX6_beats_J105 mk) hb he 6 0 m 1000 (by omega) (by omega) (by
    rw [eQ]
    exact ⟨fun _ _ => rfl, fun s hs => by omega, fun s _ hs => h s hs⟩)
  rw [eQ] at hQ
  exact ⟨m', hl, hQ.1, fun s hs => hQ.2.1 s hs⟩

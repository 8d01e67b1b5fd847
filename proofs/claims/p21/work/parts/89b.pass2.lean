/-! ===== a beat without guards, exactly ===== -/
theorem p_joined {cw ct : St} (h : WireC cw) (x : Int32) : Pc (fX3_isJoined ct cw x) (fun r => ∃ k, k < 30 ∧ x = I k ∧ r = (if jn cw ct k then I 1 else I 0)) := by
  intro r e
  have e0 := e
  unfold fX3_isJoined at e
  cases hb : inb x 30 with
  | false => rw [hb] at e; cases e
  | true =>
    obtain ⟨k, hk, rfl⟩ := in30 hb
    rw [jn_eval h hk] at e0
    cases e0
    exact ⟨k, hk, rfl, rfl⟩
/-- what is told by a port -/
def Tld (cw ct c : St) (k : Nat) : Prop := (jn cw ct k = true → c 10 k = ct 1 (pe cw k / 5) ∧ c 11 k = ct 2 (pe cw k / 5) ∧ c 12 k = ct 3 (pe cw k / 5)) ∧ (¬ jn cw ct k = true → c 10 k = nn)
theorem p_tell2 {cw ct : St} (h : WireC cw) : Pc (fX3_tell ct cw) (fun c => Fs [10, 11, 12] ct c ∧ ∀ k, k < 30 → Tld cw ct c k) := by
  unfold fX3_tell fX3_tell_L2
  refine pc_loop (fun a => ∃ t, t ≤ 30 ∧ a.2 = I t ∧ Fs [10, 11, 12] ct a.1 ∧ ∀ k, k < t → Tld cw ct a.1 k) (fun rec hr a ha => ?_) _ _ ⟨0, by omega, rfl, Fs.refl _ _, fun k hk => by omega⟩
  obtain ⟨c, x⟩ := a
  obtain ⟨t, ht, e, h1, h2⟩ := ha
  have e : x = I t := e
  subst e
  dsimp only at h1 h2
  unfold fX3_tell_S2
  refine pc_if (fun q => pc_some ⟨h1, fun k hk => ?_⟩) (fun q => pc_ck fun hin => pc_bd (p_joined h _) fun r hj => ?_)
  · dsimp only at q
    rw [lit, I_le (by omega) (by omega)] at q
    exact h2 k (by omega)
  · dsimp only at q
    rw [lit, I_le (by omega) (by omega)] at q
    have ht2 : t < 30 := by omega
    obtain ⟨k, hk, ek, rfl⟩ := hj
    dsimp only at ek
    rw [I_inj (by omega) (by omega)] at ek
    subst ek
    have f5 : aS c 10 (I t) (-1) 5 = ct 5 := by rw [aS_ne _ _ _ _ (by decide), h1 5 (by decide)]
    dsimp only
    rw [jn_ext f5]
    by_cases j : jn cw ct t = true
    · obtain ⟨w1, w2, -⟩ := wire_data h hk (Eq.mp (jn_iff _ _ _) j).1
      rw [if_pos j]
      refine pc_if (fun z => absurd z z10) (fun _ => ?_)
      rw [I_nat (by omega), w2, div5 (by omega), I_nat (by omega)]
      refine pc_ck fun _ => pc_ck fun _ => pc_ck fun _ => pc_ck fun _ => pc_ck fun _ => pc_ck fun _ => pc_ck fun _ => hr _ ⟨t + 1, by omega, I_succ t, ?_, fun k hk2 => ?_⟩
      · exact (((h1.aS (by decide) _ _).aS (by decide) _ _).aS (by decide) _ _).aS (by decide) _ _
      · dsimp only
        unfold Tld
        simp (disch := omega) only [ck1, bd1, bx1, bx2, aS_at, iS_at, upd_at, ↓reduceIte, Nat.reduceEqDiff, Nat.reduceAdd, Nat.reduceMul, Nat.reduceSub, Nat.reduceDiv, Nat.reduceLT, Nat.reduceLeDiff, Nat.reduceBEq, ne_eq, not_true_eq_false, not_false_eq_true, reduceCtorEq, if_true, if_false, eq_self, Nat.add_zero, Nat.zero_add, lit, lit_nn, I_nat, I_add, I_mul, I_sub, I_div, inb_t, I_ne, I_nn, nn_I, nn_lt, nn_le, lt_nn, le_nn, I_t, I_f, I_lt_t, I_lt_f, isb_0, isb_1, vz_0, vz_1, nn_nat]
        by_cases v : k = t
        · subst v
          rw [if_pos rfl, if_pos rfl, if_pos rfl, h1 1 (by decide), h1 2 (by decide), h1 3 (by decide)]
          exact ⟨fun _ => ⟨rfl, rfl, rfl⟩, fun z => absurd j z⟩
        · rw [if_neg v, if_neg v, if_neg v, if_neg v]
          exact h2 k (by omega)
    · rw [if_neg j]
      refine pc_if (fun _ => hr _ ⟨t + 1, by omega, I_succ t, h1.aS (by decide) _ _, fun k hk2 => ?_⟩) (fun z => absurd z00 z)
      dsimp only
      unfold Tld
      simp (disch := omega) only [ck1, bd1, bx1, bx2, aS_at, iS_at, upd_at, ↓reduceIte, Nat.reduceEqDiff, Nat.reduceAdd, Nat.reduceMul, Nat.reduceSub, Nat.reduceDiv, Nat.reduceLT, Nat.reduceLeDiff, Nat.reduceBEq, ne_eq, not_true_eq_false, not_false_eq_true, reduceCtorEq, if_true, if_false, eq_self, Nat.add_zero, Nat.zero_add, lit, lit_nn, I_nat, I_add, I_mul, I_sub, I_div, inb_t, I_ne, I_nn, nn_I, nn_lt, nn_le, lt_nn, le_nn, I_t, I_f, I_lt_t, I_lt_f, isb_0, isb_1, vz_0, vz_1, nn_nat]
      by_cases v : k = t
      · subst v
        rw [if_pos rfl]
        exact ⟨fun z => absurd z j, fun _ => rfl⟩
      · rw [if_neg v]
        exact h2 k (by omega)
theorem p_guard2 {cw ct : St} (h : ∀ k, k < 30 → cw 3 k = I 0) : Pc (fX3_guardForHouses ct cw) (Fs [13] ct) := by
  unfold fX3_guardForHouses fX3_guardForHouses_L2
  refine pc_loop (fun a => Fs [13] ct a.1) (fun rec hr a ha => ?_) _ _ (Fs.refl _ _)
  unfold fX3_guardForHouses_S2
  refine pc_if (fun _ => pc_some ha) (fun _ => pc_ck fun hin => ?_)
  obtain ⟨k, hk, ek⟩ := in30 hin
  rw [ek, I_nat (by omega), h k hk]
  refine pc_if (fun z => absurd z (by decide)) (fun _ => ?_)
  unfold fX3_guardForHouses_J40 fX3_guardForHouses_J41
  refine pc_ck fun _ => pc_ck fun _ => pc_if (fun _ => hr _ (ha.aS (by decide) _ _)) (fun z => ?_)
  rw [I_nat (by omega), show vp_nar .boolean 0 = I 0 by decide, aS_I _ _ (by omega), if_pos rfl] at z
  exact absurd z00 z
/-- the numbers of a tree, and of what is told of it -/
def Nums (ct : St) (R C H : Nat → Nat) : Prop := ∀ s, s < 6 → R s < 6 ∧ C s ≤ 100 * H s ∧ H s ≤ 7 ∧ ct 1 s = I (R s) ∧ ct 2 s = I (C s) ∧ ct 3 s = I (H s)
def tv (cw ct : St) (R C H : Nat → Nat) (i x : Nat) : Nat :=
  if i = 0 then R (pe cw x / 5) else if i = 1 then C (pe cw x / 5) else if i = 2 then H (pe cw x / 5) else if i = 3 then pe cw x else if i = 4 then cst cw x else if i = 5 then (if jn cw ct x then 1 else 0) else if i = 6 then (cw 5 x).toNatClampNeg else 0
theorem tv5 (cw ct : St) (R C H : Nat → Nat) (x : Nat) : (tv cw ct R C H 5 x ≠ 0) = (jn cw ct x = true) := by
  show ((if jn cw ct x then 1 else 0) ≠ 0) = _
  by_cases j : jn cw ct x = true
  · rw [if_pos j]; simp [j]
  · rw [if_neg j]; simp [j]
theorem tv_nk (cw ct : St) (R C H : Nat → Nat) (j : Nat) : nk (tv cw ct R C H) j = nmq cw j := rfl
theorem tv_TN {cw ct : St} (hr : RankC cw) (R C H : Nat → Nat) : TN (tv cw ct R C H) (cw 5) := by
  intro j hj
  obtain ⟨r, h1, h2⟩ := hr j hj
  show (cw 5 j).toNatClampNeg < 16 ∧ cw 5 j = I (cw 5 j).toNatClampNeg
  rw [h2, I_nat (by omega)]
  exact ⟨h1, rfl⟩
theorem tv_TG {cw ct : St} (h : ∀ k, k < 30 → cw 3 k = I 0) (R C H : Nat → Nat) : TG (tv cw ct R C H) (cw 3) := by
  intro x hx
  exact ⟨show (0 : Nat) < 3 by omega, h x hx⟩
theorem jn_data {cw ct : St} (h : WireC cw) {k : Nat} (hk : k < 30) (j : jn cw ct k = true) : pe cw k < 30 ∧ cw 0 k = I (pe cw k) ∧ 1 ≤ cst cw k ∧ cst cw k ≤ 100 ∧ cw 1 k = I (cst cw k) ∧ pe cw (pe cw k) = k ∧ cst cw (pe cw k) = cst cw k ∧ pe cw k / 5 ≠ k / 5 ∧ jn cw ct (pe cw k) = true := by
  have jj := Eq.mp (jn_iff _ _ _) j
  obtain ⟨w1, w2, w3, w4, w5, w6, w7, w8, w9⟩ := wire_data h hk jj.1
  refine ⟨w1, w2, w3, w4, w5, w6, w7, w8, Eq.mpr (jn_iff _ _ _) ⟨w9, jj.2.2, ?_⟩⟩
  rw [w6]; exact jj.2.1
theorem tv_TB {cw ct : St} (h : WireC cw) {R C H : Nat → Nat} (hn : Nums ct R C H) : TB (tv cw ct R C H) := by
  refine ⟨fun x hx t => ?_, fun x y hx hy tx ty e => ?_⟩
  · rw [tv5] at t
    obtain ⟨w1, w2, w3, w4, -⟩ := jn_data h hx t
    obtain ⟨n1, n2, n3, -⟩ := hn (pe cw x / 5) (by omega)
    exact ⟨n1, n2, n3, w1, w3, w4⟩
  · rw [tv5] at tx ty
    obtain ⟨-, -, -, -, -, w6, -⟩ := jn_data h hx tx
    obtain ⟨-, -, -, -, -, v6, -⟩ := jn_data h hy ty
    have e : pe cw x = pe cw y := e
    rw [← w6, e, v6]
theorem tv_TC {cw ct a c : St} (h : WireC cw) {R C H : Nat → Nat} (hn : Nums ct R C H) (e1 : ∀ s, s < 6 → a 1 s = ct 1 s ∧ a 2 s = ct 2 s ∧ a 3 s = ct 3 s) (e5 : ∀ k, jn cw a k = jn cw ct k) (ht : ∀ k, k < 30 → Tld cw a c k) : TC (tv cw ct R C H) (c 10) (c 11) (c 12) (cw 0) (cw 1) := by
  intro x hx
  obtain ⟨t1, t2⟩ := ht x hx
  rw [e5] at t1 t2
  refine ⟨fun z => t2 fun j => ?_, fun z => ?_⟩
  · exact absurd z (by rw [← ne_eq, tv5]; exact j)
  · rw [tv5] at z
    obtain ⟨w1, w2, w3, w4, w5, -⟩ := jn_data h hx z
    obtain ⟨n1, n2, n3, n4, n5, n6⟩ := hn (pe cw x / 5) (by omega)
    obtain ⟨u1, u2, u3⟩ := t1 z
    obtain ⟨v1, v2, v3⟩ := e1 (pe cw x / 5) (by omega)
    refine ⟨?_, ?_, ?_, w2, w5⟩
    · rw [u1, v1, n4]; rfl
    · rw [u2, v2, n5]; rfl
    · rw [u3, v3, n6]; rfl

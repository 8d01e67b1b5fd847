/-! ===== tables, in a beat ===== -/
/-- no entry is new -/
def Less (a b : St) : Prop := ∀ x, x < 180 → b 0 x = nn ∨ b 0 x = a 0 x
theorem Less.refl (a : St) : Less a a := fun _ _ => Or.inr rfl
theorem Less.trans {a b c : St} (h : Less a b) (k : Less b c) : Less a c := by
  intro x hx
  rcases k x hx with e | e
  · exact Or.inl e
  · rw [e]; exact h x hx
/-- no entry leads to the port k -/
def NoWay (k : Nat) (b : St) : Prop := ∀ o, o < 30 → b 0 (30 * (k / 5) + o) ≠ I (k % 5)
theorem NoWay.less {k : Nat} {a b : St} (hk : k < 30) (h : NoWay k a) (l : Less a b) : NoWay k b := by
  intro o ho
  rcases l (30 * (k / 5) + o) (by omega) with e | e
  · rw [e, ne_eq, nn_I (by omega)]; exact fun z => z
  · rw [e]; exact h o ho
theorem p_drop (cb : St) (x : Int32) : Pc (fX2_drop cb x) (fun c => ∃ k, k < 180 ∧ x = I k ∧ c 0 = upd (cb 0) k nn) := by
  unfold fX2_drop
  refine pc_ck fun h => pc_ck fun _ => pc_ck fun _ => pc_some ?_
  obtain ⟨k, hk, rfl⟩ := in180 h
  refine ⟨k, hk, rfl, ?_⟩
  rw [aS_ne _ _ _ _ (by decide), aS_eq, I_nat (by omega)]
  rfl
theorem less_upd {a b c : St} {k : Nat} (h : Less a b) (e : c 0 = upd (b 0) k nn) : Less a c := by
  intro x hx
  rw [e, upd_at]
  by_cases w : x = k
  · exact Or.inl (by rw [if_pos w])
  · rw [if_neg w]; exact h x hx
theorem p_forget (cb : St) {k : Nat} (hk : k < 30) : Pc (fX2_forgetPort cb (I k)) (fun c => Less cb c ∧ NoWay k c) := by
  unfold fX2_forgetPort fX2_forgetPort_L9
  have e0 : I k / 5 * 30 = I (30 * (k / 5)) := by
    rw [div5 (by omega)]
    show I _ * I 30 = _
    rw [I_mul, Nat.mul_comm]
  rw [e0]
  refine pc_loop (fun a => ∃ t, t ≤ 30 ∧ a.2 = I (30 * (k / 5) + t) ∧ Less cb a.1 ∧ ∀ o, o < t → a.1 0 (30 * (k / 5) + o) ≠ I (k % 5)) (fun rec hr a ha => ?_) _ _ ⟨0, by omega, rfl, Less.refl _, fun o ho => by omega⟩
  obtain ⟨c, x⟩ := a
  obtain ⟨t, ht, e, h1, h2⟩ := ha
  have e : x = I (30 * (k / 5) + t) := e
  subst e
  dsimp only at h1 h2
  unfold fX2_forgetPort_S9
  refine pc_if (fun q => pc_some ⟨h1, fun o ho => ?_⟩) (fun q => pc_ck fun hin => pc_if (fun g => pc_bd (p_drop _ _) fun d hd => hr _ ?_) (fun g => hr _ ?_))
  · dsimp only at q
    rw [show I (30 * (k / 5)) + 30 = I (30 * (k / 5) + 30) from I_add _ _, I_le (by omega) (by omega)] at q
    exact h2 o (by omega)
  · dsimp only at q hin g
    rw [show I (30 * (k / 5)) + 30 = I (30 * (k / 5) + 30) from I_add _ _, I_le (by omega) (by omega)] at q
    obtain ⟨j, hj, ej, d1⟩ := hd
    dsimp only at ej d1
    rw [I_inj (by omega) (by omega)] at ej
    subst ej
    refine ⟨t + 1, by omega, I_add _ 1, less_upd h1 d1, fun o ho => ?_⟩
    dsimp only
    rw [d1, upd_at]
    by_cases w : o = t
    · rw [if_pos (by omega), ne_eq, nn_I (by omega)]; exact fun z => z
    · rw [if_neg (by omega)]; exact h2 o (by omega)
  · dsimp only at q hin g
    rw [show I (30 * (k / 5)) + 30 = I (30 * (k / 5) + 30) from I_add _ _, I_le (by omega) (by omega)] at q
    refine ⟨t + 1, by omega, I_add _ 1, h1, fun o ho => ?_⟩
    dsimp only
    by_cases w : o = t
    · subst w
      rw [I_nat (by omega), mod5 (by omega)] at g
      exact g
    · exact h2 o (by omega)
theorem p_old (cb : St) (y : Int32) : Pc (fX2_dropOld cb y) (Less cb) := by
  unfold fX2_dropOld fX2_dropOld_L2
  refine pc_loop (fun a => Less cb a.1) (fun rec hr a ha => ?_) _ _ (Less.refl _)
  unfold fX2_dropOld_S2
  refine pc_if (fun _ => pc_some ha) (fun _ => pc_ck fun _ => pc_if (fun _ => hr _ ha) (fun _ => pc_ck fun _ => pc_if (fun _ => hr _ ha) (fun _ => pc_bd (p_drop _ _) fun d hd => hr _ ?_)))
  obtain ⟨k, hk, -, d1⟩ := hd
  exact less_upd ha d1
theorem p_empty (cb : St) (x : Int32) : Pc (fX2_empty cb x) (Less cb) := by
  unfold fX2_empty
  unfold fX2_empty_L7
  refine pc_loop (fun a => Less cb a.1) (fun rec hr a ha => ?_) _ _ (Less.refl _)
  unfold fX2_empty_S7
  refine pc_if (fun _ => ?_) (fun _ => pc_ck fun h => hr _ ?_)
  · unfold fX2_empty_J28
    refine pc_ck fun _ => pc_some ?_
    intro x hx
    rw [aS_ne _ _ _ _ (by decide)]
    exact ha x hx
  · obtain ⟨k, hk, e⟩ := in180 h
    refine less_upd (k := k) ha ?_
    dsimp only
    rw [e, aS_eq, I_nat (by omega)]
    rfl

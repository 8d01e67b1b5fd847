/-! ===== the law's start: the new floor is at rest ===== -/
theorem looks_t {c ct : St} (h1 : ∀ s, s < 6 → c 1 s = ct 1 s ∧ c 2 s = ct 2 s ∧ c 3 s = ct 3 s) (h2 : ∀ k, k < 30 → c 6 k = ct 6 k ∧ c 7 k = ct 7 k) : Pc (fX3_looksLike c ct) (fun r => r = I 1) := by
  unfold fX3_looksLike fX3_looksLike_L2
  refine pc_loop (fun a => ∃ t, t ≤ 6 ∧ a = I t) (fun rec hr a ha => ?_) _ _ ⟨0, by omega, rfl⟩
  obtain ⟨t, ht, rfl⟩ := ha
  unfold fX3_looksLike_S2
  refine pc_if (fun q => ?_) (fun q => ?_)
  · unfold fX3_looksLike_J61 fX3_looksLike_L63
    refine pc_loop (fun a => ∃ t, t ≤ 30 ∧ a = I t) (fun rec2 hr2 a ha => ?_) _ _ ⟨0, by omega, rfl⟩
    obtain ⟨t, ht, rfl⟩ := ha
    unfold fX3_looksLike_S63
    refine pc_if (fun q => pc_some rfl) (fun q => ?_)
    rw [lit, I_le (by omega) (by omega)] at q
    have ht2 : t < 30 := by omega
    obtain ⟨e1, e2⟩ := h2 t ht2
    rw [I_nat (by omega)]
    exact pc_ck fun _ => pc_ck fun _ => pc_if (fun _ => pc_ck fun _ => pc_ck fun _ => pc_if (fun _ => hr2 _ ⟨t + 1, by omega, I_succ t⟩) (fun n => absurd e2 n)) (fun n => absurd e1 n)
  · rw [lit, I_le (by omega) (by omega)] at q
    have ht2 : t < 6 := by omega
    obtain ⟨e1, e2, e3⟩ := h1 t ht2
    rw [I_nat (by omega)]
    exact pc_ck fun _ => pc_ck fun _ => pc_if (fun _ => pc_ck fun _ => pc_ck fun _ => pc_if (fun _ => pc_ck fun _ => pc_ck fun _ => pc_if (fun _ => hr _ ⟨t + 1, by omega, I_succ t⟩) (fun n => absurd e3 n)) (fun n => absurd e2 n)) (fun n => absurd e1 n)
theorem waits_f {c : St} (h : ∀ k, k < 30 → c 8 k = I 0) : Pc (fX3_hasWaitingPort c) (fun r => r = I 0) := by
  unfold fX3_hasWaitingPort fX3_hasWaitingPort_L2
  refine pc_loop (fun a => ∃ t, t ≤ 30 ∧ a = I t) (fun rec hr a ha => ?_) _ _ ⟨0, by omega, rfl⟩
  obtain ⟨t, ht, rfl⟩ := ha
  unfold fX3_hasWaitingPort_S2
  refine pc_if (fun q => pc_some rfl) (fun q => ?_)
  rw [lit, I_le (by omega) (by omega)] at q
  have ht2 : t < 30 := by omega
  rw [I_nat (by omega), h t ht2]
  exact pc_ck fun _ => pc_if (fun _ => hr _ ⟨t + 1, by omega, I_succ t⟩) (fun n => absurd (by decide) n)
theorem rest_start {cw ct cu : St} (hw : WireC cw) (ho : OneW cw) (hk : RankC cw) (hg : ∀ k, k < 30 → cw 3 k = I 0) (h0 : ∀ k, k < 30 → cw 0 k = nn) (t1 : ∀ s, s < 6 → ct 1 s = I s ∧ ct 2 s = I 0 ∧ ct 3 s = I 0 ∧ ct 4 s = nn) (t2 : ∀ k, k < 30 → ct 5 k = I 0 ∧ ct 6 k = I 0 ∧ ct 7 k = I 0 ∧ ct 8 k = I 0) : Pc (fX5_isAtRest cw ct cu) (fun r => r.1 = I 1) := by
  unfold fX5_isAtRest
  refine pc_bd (p_copy cu ct) fun a ha => ?_
  obtain ⟨a1, a2⟩ := ha
  have hna : Nums a (fun s => s) (fun _ => 0) (fun _ => 0) := by
    intro s hs
    obtain ⟨x1, x2, x3, -⟩ := a1 s hs
    obtain ⟨y1, y2, y3, -⟩ := t1 s hs
    exact ⟨hs, Nat.zero_le _, Nat.zero_le _, by rw [x1, y1], by rw [x2, y2], by rw [x3, y3]⟩
  refine pc_bd (p_pass2 hw ho hk hg hna) fun c hc => ?_
  obtain ⟨d, d1, ⟨q1, q2, q3, q4⟩, ⟨d5, d6, d8⟩, dT, dR⟩ := hc
  have hl1 : ∀ s, s < 6 → c 1 s = ct 1 s ∧ c 2 s = ct 2 s ∧ c 3 s = ct 3 s := by
    intro s hs
    obtain ⟨y1, y2, y3, -⟩ := t1 s hs
    obtain ⟨b, hb, -⟩ := d1 s hs
    rcases hb with ⟨b0, b1, b2, b3, b4⟩ | ⟨b0, b1, b2, -⟩
    · rw [q1, q2, q3, b1, b2, b3, y1, y2, y3]
      exact ⟨rfl, rfl, rfl⟩
    · rw [tv5, jn_iff] at b2
      exact absurd (h0 b b0) b2.1
  have port : ∀ k, k < 30 → c 6 k = I 0 ∧ c 7 k = I 0 ∧ c 8 k = I 0 := by
    intro k hk30
    obtain ⟨y5, y6, y7, y8⟩ := t2 k hk30
    obtain ⟨z5, z6, z7, z8⟩ := a2 k hk30
    obtain ⟨r, ro, r7, tr⟩ := dR k hk30
    obtain ⟨k', hk', ek, p1, -⟩ := p_role d cw (I k) r ro
    rw [I_inj (by omega) (by omega)] at ek
    subst ek
    obtain ⟨-, -, -, u⟩ := tr (by rw [z5, y5])
    obtain ⟨u6, u8⟩ := u (h0 k hk30)
    refine ⟨?_, ?_, ?_⟩
    · rw [u6, d6, z6, y6]; decide
    · rw [r7, p1 (h0 k hk30)]
    · rw [u8, d8, z8, y8]
  refine pc_bd (looks_t hl1 fun k hk30 => ?_) fun r hr => ?_
  · obtain ⟨y5, y6, y7, y8⟩ := t2 k hk30
    obtain ⟨z6, z7, z8⟩ := port k hk30
    exact ⟨by rw [z6, y6], by rw [z7, y7]⟩
  · subst hr
    refine pc_if (fun z => absurd z z10) (fun _ => pc_bd (waits_f fun k hk30 => (port k hk30).2.2) fun w hw => ?_)
    subst hw
    exact pc_if (fun _ => pc_some rfl) (fun z => absurd z00 z)

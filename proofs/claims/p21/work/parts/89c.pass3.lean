/-! ===== a beat without guards: what is held, and roles ===== -/
def Zs (V : Nat → Nat → Nat) (s x : Nat) : Prop := x < 30 ∧ x / 5 = s ∧ V 2 x < 7 ∧ V 5 x ≠ 0
def TrnAt (cw : St) (k : Nat) (r : Int32) (d e : St) : Prop := e 7 k = r ∧
  (cw 0 k ≠ nn → (r = I 1 ∨ r = I 2) → (d 6 k ≠ I 0 → e 6 k = d 6 k) ∧ (d 6 k = I 0 → (e 6 k = I 0 ∧ e 8 k = d 8 k + 1) ∨ e 6 k = I 1)) ∧
  (cw 0 k ≠ nn → ¬ (r = I 1 ∨ r = I 2) → e 6 k = I 0) ∧
  (cw 0 k = nn → e 6 k = d 6 k ∧ e 8 k = d 8 k)
theorem role_ext {cw c d : St} (h1 : c 1 = d 1) (h2 : c 2 = d 2) (h4 : c 4 = d 4) (h5 : c 5 = d 5) (h10 : c 10 = d 10) (h11 : c 11 = d 11) (x : Int32) : fX3_roleOf c cw x = fX3_roleOf d cw x := by
  unfold fX3_roleOf fX3_isShut fX3_isHeldBetter
  rw [h1, h2, h4, h5, h10, h11]
/-- the state behind what is held, and how the beat goes on from it -/
def Gone (cw : St) (V : Nat → Nat → Nat) (a c' : St) : Prop := ∃ d : St,
  (∀ s, s < 6 → ∃ b, HeldC V s b (d 1) (d 2) (d 3) (d 4) ∧ Bs V s (Zs V s) b) ∧ (c' 1 = d 1 ∧ c' 2 = d 2 ∧ c' 3 = d 3 ∧ c' 4 = d 4) ∧ (d 5 = a 5 ∧ d 6 = a 6 ∧ d 8 = a 8) ∧
  TC V (d 10) (d 11) (d 12) (cw 0) (cw 1) ∧ ∀ k, k < 30 → ∃ r, fX3_roleOf d cw (I k) = some r ∧ c' 7 k = r ∧ (a 5 k = I 0 → TrnAt cw k r d c')
theorem p_pass2 {cw a : St} (h : WireC cw) (ho : OneW cw) (hr : RankC cw) (hg : ∀ k, k < 30 → cw 3 k = I 0) {R C H : Nat → Nat} (hn : Nums a R C H) : Pc (fX3_pass a cw) (Gone cw (tv cw a R C H) a) := by
  obtain ⟨V, eV⟩ : ∃ V, V = tv cw a R C H := ⟨_, rfl⟩
  have hN : TN V (cw 5) := by rw [eV]; exact tv_TN hr R C H
  have hB : TB V := by rw [eV]; exact tv_TB h hn
  have hG : TG V (cw 3) := by rw [eV]; exact tv_TG hg R C H
  have h7 : ∀ x, V 7 x ≠ 1 := by intro x; rw [eV]; exact show (0 : Nat) ≠ 1 by omega
  unfold fX3_pass
  refine pc_bd (p_tell2 h) fun c1 h1 => pc_bd (p_guard2 hg) fun c2 h2 => ?_
  obtain ⟨t1, t2⟩ := h1
  have hT2 : TC V (c2 10) (c2 11) (c2 12) (cw 0) (cw 1) := by
    rw [h2 10 (by decide), h2 11 (by decide), h2 12 (by decide), eV]
    refine tv_TC (a := iS a 9 (a 9 0 + 1)) h hn (fun s hs => ?_) (fun k => jn_ext (iS_ne _ _ _ (by decide)) k) t2
    rw [iS_ne _ _ _ (by decide), iS_ne _ _ _ (by decide), iS_ne _ _ _ (by decide)]
    exact ⟨rfl, rfl, rfl⟩
  have c2a : ∀ q, q = 5 ∨ q = 6 ∨ q = 8 → c2 q = a q := by
    intro q hq
    rw [h2 q (by rcases hq with rfl | rfl | rfl <;> decide), t1 q (by rcases hq with rfl | rfl | rfl <;> decide), iS_ne _ _ _ (by omega)]
  rw [← eV]
  unfold fX3_pass_L20
  refine pc_loop (fun b => ∃ t, t ≤ 6 ∧ b.2 = I t ∧ Fs [1, 2, 3, 4, 14] c2 b.1 ∧ ∀ s, s < t → ∃ x, HeldC V s x (b.1 1) (b.1 2) (b.1 3) (b.1 4) ∧ Bs V s (Zs V s) x) (fun rec hrec b hb => ?_) _ _ ⟨0, by omega, rfl, Fs.refl _ _, fun s hs => by omega⟩
  obtain ⟨c, y⟩ := b
  obtain ⟨t, ht, e, f1, f2⟩ := hb
  have e : y = I t := e
  subst e
  dsimp only at f1 f2
  unfold fX3_pass_S20
  refine pc_if (fun q => ?_) (fun q => pc_ck fun _ => ?_)
  · have t6 : t = 6 := by
      dsimp only at q
      rw [lit, I_le (by omega) (by omega)] at q
      omega
    subst t6
    have hTc : TC V (c 10) (c 11) (c 12) (cw 0) (cw 1) := by rw [f1 10 (by decide), f1 11 (by decide), f1 12 (by decide)]; exact hT2
    unfold fX3_pass_J44 fX3_pass_L46
    refine pc_loop (fun b => ∃ t, t ≤ 30 ∧ b.2 = I t ∧ Fs [6, 7, 8, 14] c b.1 ∧ (∀ k, t ≤ k → b.1 6 k = c 6 k ∧ b.1 8 k = c 8 k) ∧ ∀ k, k < t → ∃ r, fX3_roleOf c cw (I k) = some r ∧ TrnAt cw k r c b.1) (fun rec2 hr2 b hb => ?_) _ _ ⟨0, by omega, rfl, Fs.refl _ _, fun _ _ => ⟨rfl, rfl⟩, fun k hk => by omega⟩
    obtain ⟨d, x⟩ := b
    obtain ⟨u, hu, ex, k1, k2, k3⟩ := hb
    have ex : x = I u := ex
    subst ex
    dsimp only at k1 k2 k3
    unfold fX3_pass_S46
    refine pc_if (fun q2 => ?_) (fun q2 => pc_bd (p_turn _ _ _) fun z hz => hr2 _ ?_)
    · have u30 : u = 30 := by
        dsimp only at q2
        rw [lit, I_le (by omega) (by omega)] at q2
        omega
      subst u30
      unfold fX3_pass_J63
      refine pc_bd (p_spread _ _) fun w hw => pc_bd (p_storms _ _ ho) fun v hv => pc_some ?_
      obtain ⟨v1, -, -, v4⟩ := hv
      have hw : Fs [14] d w := hw
      have vd : ∀ q, q ≠ 5 → q ≠ 6 → q ≠ 14 → v q = d q := fun q q1 q2 q3 => (v1 q (by simp [q1, q2])).trans (hw q (by simp [q3]))
      have dc : ∀ q, q ≠ 6 → q ≠ 7 → q ≠ 8 → q ≠ 14 → d q = c q := fun q q1 q2 q3 q4 => k1 q (by simp [q1, q2, q3, q4])
      have cc : ∀ q, q = 5 ∨ q = 6 ∨ q = 8 → c q = a q := fun q hq => (f1 q (by rcases hq with rfl | rfl | rfl <;> decide)).trans (c2a q hq)
      refine ⟨c, f2, ⟨?_, ?_, ?_, ?_⟩, ⟨cc 5 (by simp), cc 6 (by simp), cc 8 (by simp)⟩, hTc, fun k hk => ?_⟩
      · rw [vd 1 (by decide) (by decide) (by decide), dc 1 (by decide) (by decide) (by decide) (by decide)]
      · rw [vd 2 (by decide) (by decide) (by decide), dc 2 (by decide) (by decide) (by decide) (by decide)]
      · rw [vd 3 (by decide) (by decide) (by decide), dc 3 (by decide) (by decide) (by decide) (by decide)]
      · rw [vd 4 (by decide) (by decide) (by decide), dc 4 (by decide) (by decide) (by decide) (by decide)]
      · obtain ⟨r, r1, r2, r3, r4⟩ := k3 k hk
        refine ⟨r, r1, by rw [vd 7 (by decide) (by decide) (by decide)]; exact r2, fun e5 => ?_⟩
        have w5 : w 5 k = I 0 := by rw [hw 5 (by decide), dc 5 (by decide) (by decide) (by decide) (by decide), cc 5 (by simp), e5]
        have v6 : v 6 k = d 6 k := by
          have w6 : w 6 = d 6 := hw 6 (by decide)
          rw [← w6]
          apply Classical.byContradiction
          intro ne
          exact v4 k (Or.inr ne) (by rw [w5]; decide)
        unfold TrnAt
        rw [vd 7 (by decide) (by decide) (by decide), vd 8 (by decide) (by decide) (by decide), v6]
        exact ⟨r2, r3, r4⟩
    · obtain ⟨k, r, hk, ek, hr0, z1, z2, z3, z4, z5, z6⟩ := hz
      have hu30 : u < 30 := by
        dsimp only at ek
        rw [I_inj (by omega) (by omega)] at ek
        omega
      dsimp only at ek
      rw [I_inj (by omega) (by omega)] at ek
      subst ek
      dsimp only at hr0 z1 z2 z3 z4 z5 z6
      have rd : fX3_roleOf d cw (I u) = fX3_roleOf c cw (I u) := role_ext (k1 1 (by decide)) (k1 2 (by decide)) (k1 4 (by decide)) (k1 5 (by decide)) (k1 10 (by decide)) (k1 11 (by decide)) _
      rw [rd] at hr0
      obtain ⟨d6, d8⟩ := k2 u (Nat.le_refl _)
      refine ⟨u + 1, by omega, I_succ u, k1.trans z1, fun k hk2 => ?_, fun k hk2 => ?_⟩
      · obtain ⟨y1, -, y3⟩ := z3 k (by omega)
        obtain ⟨x1, x2⟩ := k2 k (by omega)
        exact ⟨y1.trans x1, y3.trans x2⟩
      · by_cases v : k = u
        · subst v
          refine ⟨r, hr0, z2, fun w0 w1 => ?_, fun w0 w1 => z6 w0 w1, fun w0 => ?_⟩
          · obtain ⟨p1, p2⟩ := z5 w0 w1
            rw [d6, d8] at p1 p2
            refine ⟨fun q => (p1 q).1, fun q => ?_⟩
            rcases p2 q with p | p
            · exact Or.inl p
            · exact Or.inr p.1
          · have := z4 w0
            rw [d6, d8] at this
            exact this
        · obtain ⟨r', x1, x2, x3, x4⟩ := k3 k (by omega)
          obtain ⟨y1, y2, y3⟩ := z3 k v
          refine ⟨r', x1, ?_⟩
          unfold TrnAt
          dsimp only
          rw [y1, y2, y3]
          exact ⟨x2, x3, x4⟩
  · dsimp only at q
    rw [lit, I_le (by omega) (by omega)] at q
    have ht6 : t < 6 := by omega
    have hTc : TC V ((aS c 14 (I t) (vp_nar .boolean 0)) 10) ((aS c 14 (I t) (vp_nar .boolean 0)) 11) ((aS c 14 (I t) (vp_nar .boolean 0)) 12) (cw 0) (cw 1) := by
      rw [aS_ne _ _ _ _ (by decide), aS_ne _ _ _ _ (by decide), aS_ne _ _ _ _ (by decide), f1 10 (by decide), f1 11 (by decide), f1 12 (by decide)]; exact hT2
    obtain ⟨b1, b, c', g1, g2, g3, g4, g5⟩ := take_c hN hTc hB hG ht6
    have zz : ∀ x, Zs V t x ↔ Zg V t b1 x := by
      intro x
      unfold Zs Zg Ct
      constructor
      · rintro ⟨z1, z2, z3, z4⟩
        exact ⟨z1, z2, z3, z4, Or.inl (h7 x)⟩
      · rintro ⟨z1, z2, z3, z4, -⟩
        exact ⟨z1, z2, z3, z4⟩
    show Pc (bd (fX3_takeBest (aS c 14 (I t) (vp_nar .boolean 0)) cw (I t)) _) _
    rw [g1, bd1]
    refine hrec _ ⟨t + 1, by omega, I_succ t, ?_, fun s hs => ?_⟩
    · intro q hq
      have q1 : q < 1 ∨ 4 < q := by
        simp at hq
        omega
      have q14 : q ≠ 14 := by
        intro e
        rw [e] at hq
        exact hq (by decide)
      exact (g2.1 q q1).trans ((aS_ne _ _ _ _ q14).trans (f1 q hq))
    · dsimp only
      by_cases v : s = t
      · subst v
        exact ⟨b, g3, g5.same zz⟩
      · obtain ⟨x, x1, x2⟩ := f2 s (by omega)
        refine ⟨x, ?_, x2⟩
        unfold HeldC at x1 ⊢
        rw [g2.2 1 s v, g2.2 2 s v, g2.2 3 s v, g2.2 4 s v, aS_ne _ _ _ _ (by decide), aS_ne _ _ _ _ (by decide), aS_ne _ _ _ _ (by decide), aS_ne _ _ _ _ (by decide)]
        exact x1

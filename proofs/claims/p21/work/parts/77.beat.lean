/-! ===== a beat, of all ===== -/
def XTab (cw ct cb : St) : Prop := ∀ j, j < 6 → ∀ o, o < 30 → cb 0 (30 * j + o) = nn ∨ ∃ p, p < 5 ∧ cb 0 (30 * j + o) = I p ∧ (cw 0 (5 * j + p) ≠ nn ∨ cw 2 (5 * j + p) ≠ nn) ∧ ct 5 (5 * j + p) = I 0
def Selves (ct : St) : Prop := ∀ s, s < 6 → Own s ct
def Beaten (cw cs ct cb cs' ct' cb' : St) (t : Nat) : Prop :=
  (∀ q, q ≠ 6 → cs' q = cs q) ∧ (∀ k, k < 30 → cs' 6 k = I 0 ∨ cs' 6 k = cs 6 k) ∧ ct' 9 0 = ct 9 0 + I t ∧ (XA cw ct → XA cw ct') ∧ (Selves ct → Selves ct') ∧ (XTab cw ct cb → XTab cw ct' cb') ∧ (0 < t → ∀ k, k < 30 → cs' 6 k = I 0)
theorem p_passBeat (cs cw ct cb : St) (ho : OneW cw) : Pc (fX5_passBeat cs cw ct cb) (fun r => Beaten cw cs ct cb r.1 r.2.1 r.2.2 1) := by
  unfold fX5_passBeat
  refine pc_bd (p_pass ct cw ho) fun c hc => ?_
  obtain ⟨h9, hx, h13, hown, -⟩ := hc
  unfold fX5_passBeat_L9
  refine pc_loop (fun a => ∃ t, t ≤ 30 ∧ a.2.2 = I t ∧ (∀ q, q ≠ 6 → a.1 q = cs q) ∧ (∀ k, k < t → a.1 6 k = I 0) ∧ (∀ k, t ≤ k → a.1 6 k = cs 6 k) ∧ Less cb a.2.1 ∧ ∀ k, k < t → c 13 k ≠ I 0 → NoWay k a.2.1) (fun rec hr a ha => ?_) _ _ ⟨0, by omega, rfl, fun _ _ => rfl, fun k hk => by omega, fun _ _ => rfl, Less.refl _, fun k hk => by omega⟩
  obtain ⟨s, b, x⟩ := a
  obtain ⟨t, ht, e, h1, h2, h3, h4, h5⟩ := ha
  have e : x = I t := e
  subst e
  dsimp only at h1 h2 h3 h4 h5
  unfold fX5_passBeat_S9
  have next : ∀ b', t < 30 → Less cb b' → (∀ k, k < t + 1 → c 13 k ≠ I 0 → NoWay k b') → Pc (rec ((aS s 6 (I t) 0), b', I t + 1)) (fun r => Beaten cw cs ct cb r.1 r.2.1 r.2.2 1) := by
    intro b' htl l w
    refine hr _ ⟨t + 1, by omega, I_add t 1, fun q hq => ?_, fun k hk => ?_, fun k hk => ?_, l, w⟩
    · dsimp only
      rw [aS_ne _ _ _ _ hq]
      exact h1 q hq
    · dsimp only
      rw [aS_I _ _ (by omega)]
      by_cases e : k = t
      · rw [if_pos e]; rfl
      · rw [if_neg e]; exact h2 k (by omega)
    · dsimp only
      rw [aS_I _ _ (by omega), if_neg (by omega)]
      exact h3 k (by omega)
  refine pc_if (fun q => ?_) (fun q => pc_ck fun hin => pc_ck fun _ => pc_if (fun g => ?_) (fun g => pc_bd (p_forget _ ?_) fun d hd => ?_))
  · dsimp only at q
    rw [show (30 : Int32) = I 30 from rfl, I_le (by omega) (by omega)] at q
    have t30 : t = 30 := by omega
    subst t30
    have fin : ∀ b', Less b b' → Beaten cw cs ct cb s c b' 1 := by
      intro b' l
      refine ⟨h1, fun k hk => Or.inl (h2 k hk), h9, hx, fun _ => hown, fun hT j hj o ho' => ?_, fun _ k hk => h2 k hk⟩
      rcases (h4.trans l) (30 * j + o) (by omega) with e | e
      · exact Or.inl e
      · rw [e]
        rcases hT j hj o ho' with w | ⟨p, hp, w1, w2, w3⟩
        · exact Or.inl w
        · right
          refine ⟨p, hp, w1, w2, ?_⟩
          rcases h13 (5 * j + p) (by omega) w3 with v | v
          · exact v
          · exfalso
            have nw := (h5 (5 * j + p) (by omega) v).less (by omega) l o ho'
            rw [show (5 * j + p) / 5 = j by omega, show (5 * j + p) % 5 = p by omega, e] at nw
            exact nw w1
    unfold fX5_passBeat_J48 fX5_passBeat_L50
    refine pc_loop (fun a => Less b a.1) (fun rec2 hr2 a ha => ?_) _ _ (Less.refl _)
    unfold fX5_passBeat_S50
    refine pc_if (fun _ => ?_) (fun _ => pc_ck fun _ => pc_if (fun _ => hr2 _ ha) (fun _ => pc_bd (p_empty _ _) fun d hd => hr2 _ (ha.trans hd)))
    unfold fX5_passBeat_J82
    exact pc_bd (p_old _ _) fun d hd => pc_some (fin d (ha.trans hd))
  · obtain ⟨k, hk, ek⟩ := in30 hin
    dsimp only at ek
    rw [I_inj (by omega) (by omega)] at ek
    refine next b (by omega) h4 fun k hk2 hc => ?_
    by_cases e : k = t
    · subst e
      dsimp only at g
      rw [I_nat (by omega)] at g
      exact absurd g hc
    · exact h5 k (by omega) hc
  · obtain ⟨k, hk, ek⟩ := in30 hin
    dsimp only at ek
    rw [I_inj (by omega) (by omega)] at ek
    omega
  · obtain ⟨k, hk, ek⟩ := in30 hin
    dsimp only at ek
    rw [I_inj (by omega) (by omega)] at ek
    refine next d (by omega) (h4.trans hd.1) fun k hk2 hc => ?_
    by_cases e : k = t
    · subst e; exact hd.2
    · exact (h5 k (by omega) hc).less (by omega) hd.1
theorem p_beat (cs cw ct cb : St) (ho : OneW cw) {n : Nat} (hn : n < 1000) : Pc (fX5_beat cs cw ct cb (I n)) (fun r => ∀ a, r = .inl a → a.1 = ct 9 0 + I n ∧ Beaten cw cs ct cb a.2.1 a.2.2.1 a.2.2.2 n) := by
  unfold fX5_beat
  refine pc_bx (Ψ := fun _ => True) (fun _ _ _ _ => trivial) (fun k a e => by cases e) fun _ _ => ?_
  unfold fX5_beat_L9
  refine pc_loop (fun a => ∃ t, t ≤ n ∧ a.2.2.2 = I t ∧ Beaten cw cs ct cb a.1 a.2.1 a.2.2.1 t) (fun rec hr a ha => ?_) _ _ ⟨0, by omega, rfl, ?_⟩
  · obtain ⟨s, c, b, x⟩ := a
    obtain ⟨t, ht, e, h1, h2, h3, h4, h5, h6, h7⟩ := ha
    have e : x = I t := e
    subst e
    dsimp only at h1 h2 h3 h4 h5 h6 h7
    unfold fX5_beat_S9
    refine pc_if (fun q => pc_some fun a e => ?_) (fun q => pc_bd (p_passBeat _ _ _ _ ho) fun r hr0 => hr _ ?_)
    · dsimp only at q
      rw [I_le (by omega) (by omega)] at q
      have : t = n := by omega
      subst this
      cases e
      exact ⟨h3, h1, h2, h3, h4, h5, h6, h7⟩
    · dsimp only at q
      rw [I_le (by omega) (by omega)] at q
      obtain ⟨k1, k2, k3, k4, k5, k6, k7⟩ := hr0
      dsimp only at k1 k2 k3 k4 k5 k6 k7
      refine ⟨t + 1, by omega, I_add t 1, fun q hq => (k1 q hq).trans (h1 q hq), fun k hk => Or.inl (k7 (by omega) k hk), ?_, fun h => k4 (h4 h), fun h => k5 (h5 h), fun h => k6 (h6 h), fun _ => k7 (by omega)⟩
      dsimp only
      rw [k3, h3, Int32.add_assoc, I_add]
  · refine ⟨fun _ _ => rfl, fun _ _ => Or.inr rfl, ?_, fun h => h, fun h => h, fun h => h, fun h => by omega⟩
    show ct 9 0 = ct 9 0 + 0
    simp

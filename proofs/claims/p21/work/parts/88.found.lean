/-! ===== found, on both sides ===== -/
/-- all ways, the class's -/
theorem ways_c {cw ct : St} (h : WireC cw) {s : Nat} {f : Nat → Int32} (hf : WayC (wy cw ct s 0) f) : ∃ f', WayC (wy cw ct s 180) f' ∧ fX3_measureWays_J30 (pF ct 15 f) cw = some (pF ct 15 f') := by
  have inner : ∀ r, r < 6 → ∀ f, WayC (wy cw ct s (30 * r)) f → ∃ f', WayC (wy cw ct s (30 * (r + 1))) f' ∧ ∀ k32, fX3_measureWays_L40 k32 cw (I r) (pF ct 15 f) (I 0) = k32 (pF ct 15 f', I (r + 1)) := by
    intro r hr f hf
    obtain ⟨f', h1, h2⟩ := loop_upf (step := fun k32 k a => fX3_measureWays_S40 k32 k cw (I r) (a.1) (a.2)) (fun k (f : Nat → Int32) => (pF ct 15 f, I k)) 30 (fun k f => WayC (wy cw ct s (30 * r + k)) f) (fun k32 f => k32 (pF ct 15 f, I (r + 1)))
      (fun k f hk hf => by
        obtain ⟨f', g1, g2⟩ := way_c h hk (show 30 * r + k < 180 by omega) (by omega) hf
        exact ⟨f', g1, fun k32 rec => g2 (I r) k32 rec⟩)
      (fun f hf k32 rec => by
        show fX3_measureWays_S40 k32 rec cw (I r) (pF ct 15 f) (I 30) = _
        unfold fX3_measureWays_S40
        rw [if_pos (show (30 : Int32) ≤ I 30 by decide), I_succ])
      30 0 f 1000 (by omega) (by omega) hf
    exact ⟨f', h1, h2⟩
  obtain ⟨f', h1, h2⟩ := loop_up (step := fun k a => fX3_measureWays_S32 k cw (a.1) (a.2)) (fun k (f : Nat → Int32) => (pF ct 15 f, I k)) 6 (fun r f => WayC (wy cw ct s (30 * r)) f) (fun f => some (pF ct 15 f))
    (fun r f hr hf => by
      obtain ⟨f', g1, g2⟩ := inner r hr f hf
      refine ⟨f', g1, fun rec => ?_⟩
      show fX3_measureWays_S32 rec cw (pF ct 15 f) (I r) = _
      unfold fX3_measureWays_S32
      rw [if_neg (show ¬ (6 : Int32) ≤ I r by rw [lit, I_lt_f (by omega) (by omega)]; exact fun z => z)]
      exact g2 rec)
    (fun f hf rec => by
      show fX3_measureWays_S32 rec cw (pF ct 15 f) (I 6) = _
      unfold fX3_measureWays_S32
      rw [if_pos (show (6 : Int32) ≤ I 6 by decide)])
    6 0 f 1000 (by omega) (by omega) hf
  exact ⟨f', h1, h2⟩
theorem meas_c {cw ct : St} (h : WireC cw) {s : Nat} (hs : s < 6) : ∃ f, WayC (wy cw ct s 180) f ∧ fX3_measureWays ct cw (I s) = some (pF ct 15 f) := by
  obtain ⟨f, h1, h2⟩ := loop_up (step := fun k a => fX3_measureWays_S2 k cw (I s) (a.1) (a.2)) (fun k (f : Nat → Int32) => (pF ct 15 f, I k)) 6 (fun r f => ∀ u, u < r → f u = if u = s then I 0 else nn) (fun f => fX3_measureWays_J30 (pF ct 15 f) cw)
    (fun r f hr hf => by
      refine ⟨upd f r (if r = s then I 0 else nn), fun u hu => ?_, fun rec => ?_⟩
      · rw [upd_at]
        by_cases e : u = r
        · rw [if_pos e, e]
        · rw [if_neg e]; exact hf u (by omega)
      · show fX3_measureWays_S2 rec cw (I s) (pF ct 15 f) (I r) = _
        unfold fX3_measureWays_S2 fX3_measureWays_J23
        rw [if_neg (show ¬ (6 : Int32) ≤ I r by rw [lit, I_lt_f (by omega) (by omega)]; exact fun z => z)]
        by_cases e : r = s
        · subst e
          rw [if_pos rfl, inb_t hr (by omega), ck1, if_pos rfl, aS_pF, I_nat (by omega), I_succ]
          rfl
        · rw [if_neg (by rw [I_inj (by omega) (by omega)]; exact e), inb_t hr (by omega), ck1, if_neg e, aS_pF, I_nat (by omega), I_succ]
          rfl)
    (fun f hf rec => by
      show fX3_measureWays_S2 rec cw (I s) (pF ct 15 f) (I 6) = _
      unfold fX3_measureWays_S2
      rw [if_pos (show (6 : Int32) ≤ I 6 by decide)])
    6 0 (ct 15) 1000 (by omega) (by omega) (fun u hu => by omega)
  have h0 : WayC (wy cw ct s 0) f := by
    intro u hu
    rw [h1 u hu]
    show ((if u = s then 0 else 100000) = 100000 ∧ _) ∨ ((if u = s then 0 else 100000) ≤ 18000 ∧ _ = I (if u = s then 0 else 100000))
    by_cases e : u = s
    · rw [if_pos e, if_pos e]; exact Or.inr ⟨by omega, rfl⟩
    · rw [if_neg e, if_neg e]; exact Or.inl ⟨rfl, rfl⟩
  obtain ⟨f', g1, g2⟩ := ways_c h h0
  refine ⟨f', g1, ?_⟩
  unfold fX3_measureWays fX3_measureWays_L2
  rw [← g2, ← h2, pF_self]
  rfl
/-- the best of those that can be reached, up to t -/
def bst (cw : St) (d : Nat → Nat) (s : Nat) : Nat → Nat
  | 0 => s
  | t + 1 => if d t < 100000 ∧ nmq cw t < nmq cw (bst cw d s t) then t else bst cw d s t
theorem bst_lt (cw : St) (d : Nat → Nat) {s : Nat} (hs : s < 6) : ∀ t, t ≤ 6 → bst cw d s t < 6 := by
  intro t
  induction t with
  | zero => intro _; exact hs
  | succ t ih =>
    intro ht
    show (if d t < 100000 ∧ nmq cw t < nmq cw (bst cw d s t) then t else bst cw d s t) < 6
    by_cases c : d t < 100000 ∧ nmq cw t < nmq cw (bst cw d s t)
    · rw [if_pos c]; omega
    · rw [if_neg c]; exact ih (by omega)
theorem bst_in (cw : St) (d : Nat → Nat) {s : Nat} (hs : d s < 100000) : ∀ t, d (bst cw d s t) < 100000 := by
  intro t
  induction t with
  | zero => exact hs
  | succ t ih =>
    show d (if d t < 100000 ∧ nmq cw t < nmq cw (bst cw d s t) then t else bst cw d s t) < 100000
    by_cases c : d t < 100000 ∧ nmq cw t < nmq cw (bst cw d s t)
    · rw [if_pos c]; exact c.1
    · rw [if_neg c]; exact ih
theorem bst_min (cw : St) (d : Nat → Nat) (s : Nat) : ∀ t, nmq cw (bst cw d s t) ≤ nmq cw s ∧ ∀ u, u < t → d u < 100000 → nmq cw (bst cw d s t) ≤ nmq cw u := by
  intro t
  induction t with
  | zero => exact ⟨Nat.le_refl _, fun u hu => by omega⟩
  | succ t ih =>
    show nmq cw (if d t < 100000 ∧ nmq cw t < nmq cw (bst cw d s t) then t else bst cw d s t) ≤ nmq cw s ∧ ∀ u, u < t + 1 → d u < 100000 → nmq cw (if d t < 100000 ∧ nmq cw t < nmq cw (bst cw d s t) then t else bst cw d s t) ≤ nmq cw u
    by_cases c : d t < 100000 ∧ nmq cw t < nmq cw (bst cw d s t)
    · rw [if_pos c]
      refine ⟨by omega, fun u hu hd => ?_⟩
      by_cases e : u = t
      · rw [e]; exact Nat.le_refl _
      · have := ih.2 u (by omega) hd; omega
    · rw [if_neg c]
      refine ⟨ih.1, fun u hu hd => ?_⟩
      by_cases e : u = t
      · subst e
        apply Classical.byContradiction
        intro z
        exact c ⟨hd, by omega⟩
      · exact ih.2 u (by omega) hd
theorem name_q {cw : St} (h : RankC cw) {a b : Nat} (ha : a < 6) (hb : b < 6) : fX4_isBetterName cw (I a) (I b) = some (if nmq cw a < nmq cw b then I 1 else I 0) := by
  obtain ⟨ra, h1, e1⟩ := h a ha
  obtain ⟨rb, h2, e2⟩ := h b hb
  have := (name_both (cw := cw) (mm := pF cw 2 (cw 5)) ha hb h1 h2 (by rw [pF_at, if_pos rfl, e1]) (by rw [pF_at, if_pos rfl, e2]) (by rw [pF_at, if_pos rfl]) (by rw [pF_at, if_pos rfl])).1
  rw [this]
  unfold nmq
  rw [e1, e2, I_nat (by omega), I_nat (by omega)]
  by_cases c : ra * 6 + a < rb * 6 + b
  · rw [if_pos c, if_pos c]
  · rw [if_neg c, if_neg c]
theorem choose_c {cw ct : St} (h : WireC cw) (hr : RankC cw) {s : Nat} (hs : s < 6) {f : Nat → Int32} (hf : WayC (wy cw ct s 180) f) (h0 : wy cw ct s 180 s < 100000) : fX5_found_L16 cw (pF ct 15 f) (I s) (I 0) = some (.inl (I (1000 * bst cw (wy cw ct s 180) s 6 + wy cw ct s 180 (bst cw (wy cw ct s 180) s 6)), pF ct 15 f)) := by
  have f15 : pF ct 15 f 15 = f := by rw [pF_at, if_pos rfl]
  obtain ⟨f', h1, h2⟩ := loop_up (step := fun k a => fX5_found_S16 k cw (pF ct 15 f) (a.1) (a.2)) (fun k (b : Nat) => (I b, I k)) 6 (fun k b => b = bst cw (wy cw ct s 180) s k) (fun b => some (.inl (I (1000 * b + wy cw ct s 180 b), pF ct 15 f)))
    (fun k b hk hb => by
      subst hb
      have bl := bst_lt cw (wy cw ct s 180) hs k (by omega)
      refine ⟨bst cw (wy cw ct s 180) s (k + 1), rfl, fun rec => ?_⟩
      show fX5_found_S16 rec cw (pF ct 15 f) (I (bst cw (wy cw ct s 180) s k)) (I k) = rec (I (if wy cw ct s 180 k < 100000 ∧ nmq cw k < nmq cw (bst cw (wy cw ct s 180) s k) then k else bst cw (wy cw ct s 180) s k), I (k + 1))
      unfold fX5_found_S16
      rw [if_neg (show ¬ (6 : Int32) ≤ I k by rw [lit, I_lt_f (by omega) (by omega)]; exact fun z => z), inb_t hk (by omega), ck1, I_nat (by omega), f15]
      rcases hf k hk with ⟨x1, x2⟩ | ⟨x1, x2⟩
      · rw [x2, if_pos neg1.symm, if_neg (by omega), I_succ]
      · rw [x2, if_neg (by rw [neg1, I_nn (by omega)]; exact fun z => z), name_q hr hk bl, bd1]
        by_cases c : nmq cw k < nmq cw (bst cw (wy cw ct s 180) s k)
        · rw [if_pos c, if_neg z10, if_pos ⟨by omega, c⟩, I_succ]
        · rw [if_neg c, if_pos z00, if_neg (fun z => c z.2), I_succ])
    (fun b hb rec => by
      have bl : b < 6 := by rw [hb]; exact bst_lt cw _ hs 6 (by omega)
      have bi : wy cw ct s 180 b < 100000 := by rw [hb]; exact bst_in cw _ h0 6
      show fX5_found_S16 rec cw (pF ct 15 f) (I b) (I 6) = _
      unfold fX5_found_S16 fX5_found_J55
      rw [if_pos (show (6 : Int32) ≤ I 6 by decide), inb_t bl (by omega), ck1, I_nat (by omega), f15]
      rcases hf b bl with ⟨x1, x2⟩ | ⟨x1, x2⟩
      · omega
      · rw [x2]
        show some (Sum.inl (I 1000 * I b + I _, _)) = _
        rw [I_mul, I_add])
    6 0 s 1000 (by omega) (by omega) rfl
  rw [h1] at h2
  exact h2
theorem wy_self (cw ct : St) (h : WireC cw) (s : Nat) : ∀ t, wy cw ct s t s = 0 := by
  intro t
  induction t with
  | zero => show (if s = s then 0 else 100000) = 0; rw [if_pos rfl]
  | succ t ih =>
    show rlx cw ct (wy cw ct s t) (t % 30) s = 0
    unfold rlx
    rw [if_neg (fun z => by have := z.2.2; omega), ih]
/-- what is found, as a number -/
def fnd (cw ct : St) (s : Nat) : Nat := 1000 * bst cw (wy cw ct s 180) s 6 + wy cw ct s 180 (bst cw (wy cw ct s 180) s 6)
theorem found_c {cw ct : St} (h : WireC cw) (hr : RankC cw) {s : Nat} (hs : s < 6) : ∃ f, fX5_found cw ct (I s) = some (.inl (I (fnd cw ct s), pF ct 15 f)) := by
  obtain ⟨f, h1, h2⟩ := meas_c (ct := ct) h hs
  refine ⟨f, ?_⟩
  unfold fX5_found
  rw [needSwitch_t hs, bx1, h2, bd1]
  exact choose_c h hr hs h1 (by rw [wy_self cw ct h s 180]; omega)

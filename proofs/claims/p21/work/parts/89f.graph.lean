/-! ===== at rest: ways and roots ===== -/
/-- how many of the first m have less than n -/
def clt (H : Nat → Nat) : Nat → Nat → Nat
  | 0, _ => 0
  | m + 1, n => clt H m n + (if H m < n then 1 else 0)
theorem clt_le (H : Nat → Nat) : ∀ m n, clt H m n ≤ m := by
  intro m
  induction m with
  | zero => intro n; exact Nat.le_refl _
  | succ m ih =>
    intro n
    show clt H m n + (if H m < n then 1 else 0) ≤ m + 1
    have := ih n
    by_cases c : H m < n
    · rw [if_pos c]; omega
    · rw [if_neg c]; omega
theorem clt_up (H : Nat → Nat) (n : Nat) : ∀ m, clt H m n ≤ clt H m (n + 1) ∧ ((∃ u, u < m ∧ H u = n) → clt H m n + 1 ≤ clt H m (n + 1)) := by
  intro m
  induction m with
  | zero => exact ⟨Nat.le_refl _, fun ⟨u, hu, _⟩ => by omega⟩
  | succ m ih =>
    show clt H m n + (if H m < n then 1 else 0) ≤ clt H m (n + 1) + (if H m < n + 1 then 1 else 0) ∧ ((∃ u, u < m + 1 ∧ H u = n) → clt H m n + (if H m < n then 1 else 0) + 1 ≤ clt H m (n + 1) + (if H m < n + 1 then 1 else 0))
    have i1 := ih.1
    refine ⟨?_, fun ⟨u, hu, e⟩ => ?_⟩
    · by_cases c : H m < n
      · rw [if_pos c, if_pos (by omega)]; omega
      · rw [if_neg c]; omega
    · by_cases v : u = m
      · subst v
        rw [if_neg (by omega), if_pos (by omega)]; omega
      · have i2 := ih.2 ⟨u, by omega, e⟩
        by_cases c : H m < n
        · rw [if_pos c, if_pos (by omega)]; omega
        · rw [if_neg c]; omega
theorem hops_le {cw ct : St} {R C H : Nat → Nat} (hw : WireC cw) (h : RestF cw ct R C H) {s : Nat} (hs : s < 6) : H s ≤ 5 := by
  obtain ⟨-, h2, -⟩ := h
  -- each number of hops up to that of s is some switch's
  have at_ : ∀ d, d ≤ H s → ∃ u, u < 6 ∧ H u = H s - d := by
    intro d
    induction d with
    | zero => intro _; exact ⟨s, hs, by omega⟩
    | succ d ih =>
      intro hd
      obtain ⟨u, hu, e⟩ := ih (by omega)
      rcases h2 u hu with ⟨-, -, z, -⟩ | ⟨b, b0, b1, b2, -, -, b5, -⟩
      · omega
      · obtain ⟨w1, -⟩ := jn_data hw b0 b2
        exact ⟨pe cw b / 5, by omega, by omega⟩
  have up : ∀ n, n ≤ H s + 1 → n ≤ clt H 6 n := by
    intro n
    induction n with
    | zero => intro _; exact Nat.zero_le _
    | succ n ih =>
      intro hn
      have i := ih (by omega)
      obtain ⟨u, hu, e⟩ := at_ (H s - n) (by omega)
      have := (clt_up H n 6).2 ⟨u, hu, by omega⟩
      omega
  have a := up (H s + 1) (Nat.le_refl _)
  have b := clt_le H 6 (H s + 1)
  omega
theorem nmq_inj {cw : St} (h : RankC cw) {a b : Nat} (ha : a < 6) (hb : b < 6) (e : nmq cw a = nmq cw b) : a = b := by
  unfold nmq at e
  omega
/-- two that are joined hold the same root, and neither costs more than by the other -/
theorem same_root {cw ct : St} {R C H : Nat → Nat} (hw : WireC cw) (hk : RankC cw) (h : RestF cw ct R C H) {x : Nat} (hx : x < 30) (j : jn cw ct x = true) : R (x / 5) = R (pe cw x / 5) ∧ C (x / 5) ≤ C (pe cw x / 5) + cst cw x ∧ C (pe cw x / 5) ≤ C (x / 5) + cst cw x := by
  obtain ⟨w1, w2, w3, w4, w5, w6, w7, w8, w9⟩ := jn_data hw hx j
  have l1 := hops_le hw h (show x / 5 < 6 by omega)
  have l2 := hops_le hw h (show pe cw x / 5 < 6 by omega)
  obtain ⟨h1, h2, h3, h4, -⟩ := h
  have a := h4 x hx j (by omega)
  have b := h4 (pe cw x) w1 w9 (by rw [w6]; omega)
  rw [w6, w7] at b
  rcases a with a | ⟨a1, a2⟩
  · rcases b with b | ⟨b1, b2⟩
    · omega
    · rw [b1] at a; omega
  · rcases b with b | ⟨b1, b2⟩
    · rw [a1] at b; omega
    · exact ⟨a1, a2, b2⟩
theorem wy_mono (cw ct : St) (s : Nat) : ∀ d t u, wy cw ct s (t + d) u ≤ wy cw ct s t u := by
  intro d
  induction d with
  | zero => intro t u; exact Nat.le_refl _
  | succ d ih =>
    intro t u
    have i := ih t u
    show rlx cw ct (wy cw ct s (t + d)) ((t + d) % 30) u ≤ _
    unfold rlx
    by_cases c : jn cw ct ((t + d) % 30) = true ∧ u = pe cw ((t + d) % 30) / 5 ∧ wy cw ct s (t + d) ((t + d) % 30 / 5) + cst cw ((t + d) % 30) < wy cw ct s (t + d) u
    · rw [if_pos c]
      have := c.2.2
      omega
    · rw [if_neg c]; exact i
theorem wy_low {cw ct : St} {R C H : Nat → Nat} (hw : WireC cw) (hk : RankC cw) (h : RestF cw ct R C H) {s : Nat} (hs : s < 6) : ∀ t, t ≤ 180 → ∀ u, u < 6 → wy cw ct s t u < 100000 → R u = R s ∧ C s ≤ wy cw ct s t u + C u := by
  intro t
  induction t with
  | zero =>
    intro _ u hu e
    have : u = s := by
      apply Classical.byContradiction
      intro z
      have e2 : (if u = s then 0 else 100000) < 100000 := e
      rw [if_neg z] at e2
      omega
    subst this
    exact ⟨rfl, Nat.le_add_left _ _⟩
  | succ t ih =>
    intro ht u hu
    show rlx cw ct (wy cw ct s t) (t % 30) u < 100000 → R u = R s ∧ C s ≤ rlx cw ct (wy cw ct s t) (t % 30) u + C u
    have hk30 : t % 30 < 30 := Nat.mod_lt _ (by omega)
    unfold rlx
    by_cases c : jn cw ct (t % 30) = true ∧ u = pe cw (t % 30) / 5 ∧ wy cw ct s t (t % 30 / 5) + cst cw (t % 30) < wy cw ct s t u
    · rw [if_pos c]
      intro _
      have le := wy_far cw ct hw s (show t ≤ 180 by omega) u
      have j := c.1
      obtain ⟨i1, i2⟩ := ih (by omega) (t % 30 / 5) (by omega) (by have := c.2.2; omega)
      obtain ⟨r1, r2, r3⟩ := same_root hw hk h hk30 j
      rw [c.2.1]
      exact ⟨by rw [← r1, i1], by omega⟩
    · rw [if_neg c]
      exact fun e => ih (by omega) u hu e
theorem wy_up {cw ct : St} {R C H : Nat → Nat} (hw : WireC cw) (hk : RankC cw) (h : RestF cw ct R C H) {s : Nat} (hs : s < 6) : ∀ n, n ≤ H s → ∃ u, u < 6 ∧ H u = H s - n ∧ C u ≤ C s ∧ wy cw ct s (30 * n) u + C u ≤ C s ∧ R u = R s := by
  intro n
  induction n with
  | zero =>
    intro _
    refine ⟨s, hs, rfl, Nat.le_refl _, ?_, rfl⟩
    show (if s = s then 0 else 100000) + C s ≤ C s
    rw [if_pos rfl]; omega
  | succ n ih =>
    intro hn
    obtain ⟨u, hu, e1, e2, e3, e4⟩ := ih (by omega)
    rcases h.2.1 u hu with ⟨-, -, z, -⟩ | ⟨b, b0, b1, b2, b3, b4, b5, -⟩
    · omega
    · obtain ⟨w1, w2, w3, w4, -⟩ := jn_data hw b0 b2
      refine ⟨pe cw b / 5, by omega, by omega, by omega, ?_, by rw [← b3, e4]⟩
      -- in this round, at its port
      have m1 := wy_mono cw ct s b (30 * n) u
      have m2 := wy_mono cw ct s (29 - b) (30 * n + b + 1) (pe cw b / 5)
      rw [show 30 * n + b + 1 + (29 - b) = 30 * (n + 1) by omega] at m2
      have st : wy cw ct s (30 * n + b + 1) (pe cw b / 5) ≤ wy cw ct s (30 * n + b) u + cst cw b := by
        show rlx cw ct (wy cw ct s (30 * n + b)) ((30 * n + b) % 30) (pe cw b / 5) ≤ _
        rw [show (30 * n + b) % 30 = b by omega]
        unfold rlx
        rw [b1]
        by_cases c : jn cw ct b = true ∧ pe cw b / 5 = pe cw b / 5 ∧ wy cw ct s (30 * n + b) u + cst cw b < wy cw ct s (30 * n + b) (pe cw b / 5)
        · rw [if_pos c]; exact Nat.le_refl _
        · rw [if_neg c]
          apply Classical.byContradiction
          intro z
          exact c ⟨b2, rfl, by omega⟩
      omega
/-- what is found at once is what is held -/
theorem found_held {cw ct : St} {R C H : Nat → Nat} (hw : WireC cw) (hk : RankC cw) (h : RestF cw ct R C H) {s : Nat} (hs : s < 6) : fnd cw ct s = 1000 * R s + C s := by
  have hh := hops_le hw h hs
  obtain ⟨u, hu, e1, e2, e3, e4⟩ := wy_up hw hk h hs (H s) (Nat.le_refl _)
  obtain ⟨hn, h2, h3, -⟩ := id h
  have hu0 : R u = u ∧ C u = 0 := by
    rcases h2 u hu with ⟨z1, z2, -⟩ | ⟨b, -, -, -, -, -, b5, -⟩
    · exact ⟨z1, z2⟩
    · omega
  have ru : R s = u := by rw [← e4, hu0.1]
  have m := wy_mono cw ct s (180 - 30 * H s) (30 * H s) u
  rw [show 30 * H s + (180 - 30 * H s) = 180 by omega] at m
  have n1 := (hn s hs)
  have near : wy cw ct s 180 u < 100000 := by
    have := n1.2.1
    have := n1.2.2.1
    omega
  have low := wy_low hw hk h hs 180 (Nat.le_refl _) u hu near
  have eC : wy cw ct s 180 u = C s := by have := low.2; omega
  -- the best that can be reached
  have self0 : wy cw ct s 180 s < 100000 := by rw [wy_self cw ct hw s 180]; omega
  have bl := bst_lt cw (wy cw ct s 180) hs 6 (Nat.le_refl _)
  have bi := bst_in cw (wy cw ct s 180) self0 6
  have bm := (bst_min cw (wy cw ct s 180) s 6).2 u hu near
  have rb := (wy_low hw hk h hs 180 (Nat.le_refl _) _ bl bi).1
  have nb := h3 _ bl
  rw [rb, ru] at nb
  have eb : bst cw (wy cw ct s 180) s 6 = u := nmq_inj hk bl hu (by omega)
  unfold fnd
  rw [eb, eC, ru]

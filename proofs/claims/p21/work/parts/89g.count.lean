/-! ===== at rest: roles, open wires, how many ===== -/
theorem root_port {cw ct : St} {R C H : Nat → Nat} (hw : WireC cw) (h : RestF cw ct R C H) {x : Nat} (hx : x < 30) (e : ct 4 (x / 5) = I (x % 5)) : jn cw ct x = true ∧ C (x / 5) = C (pe cw x / 5) + cst cw x := by
  rcases h.2.1 (x / 5) (by omega) with ⟨-, -, -, z⟩ | ⟨b, b0, b1, b2, -, b4, -, b6⟩
  · rw [z, nn_I (by omega)] at e; cases e
  · rw [e, I_inj (by omega) (by omega)] at b6
    have : b = x := by omega
    subst this
    exact ⟨b2, b4⟩
/-- the two ends of a wire nothing of which is shut -/
theorem ends {cw ct : St} {R C H : Nat → Nat} (hw : WireC cw) (hk : RankC cw) (h : RestF cw ct R C H) {x : Nat} (hx : x < 30) (j : jn cw ct x = true) :
    (ct 4 (x / 5) = I (x % 5) ∧ ct 4 (pe cw x / 5) ≠ I (pe cw x % 5) ∧ ct 7 x = I 1 ∧ ct 7 (pe cw x) = I 2) ∨
    (ct 4 (x / 5) ≠ I (x % 5) ∧ ct 4 (pe cw x / 5) = I (pe cw x % 5) ∧ ct 7 x = I 2 ∧ ct 7 (pe cw x) = I 1) ∨
    (ct 4 (x / 5) ≠ I (x % 5) ∧ ct 4 (pe cw x / 5) ≠ I (pe cw x % 5) ∧ ((ct 7 x = I 2 ∧ ct 7 (pe cw x) = I 3) ∨ (ct 7 x = I 3 ∧ ct 7 (pe cw x) = I 2))) := by
  obtain ⟨w1, w2, w3, w4, w5, w6, w7, w8, w9⟩ := jn_data hw hx j
  obtain ⟨r1, r2, r3⟩ := same_root hw hk h hx j
  have ne : nmq cw (x / 5) ≠ nmq cw (pe cw x / 5) := fun e => w8 (nmq_inj hk (by omega) (by omega) e.symm)
  have fx := h.2.2.2.2.1 x hx j
  have fy := h.2.2.2.2.1 (pe cw x) w1 w9
  rw [w6] at fy
  have lt_st : Lt cw R C (x / 5) (pe cw x / 5) ↔ (C (x / 5) < C (pe cw x / 5) ∨ (C (x / 5) = C (pe cw x / 5) ∧ nmq cw (x / 5) < nmq cw (pe cw x / 5))) := by
    unfold Lt
    rw [r1]
    constructor
    · rintro (z | ⟨-, z⟩)
      · omega
      · exact z
    · exact fun z => Or.inr ⟨rfl, z⟩
  have lt_ts : Lt cw R C (pe cw x / 5) (x / 5) ↔ (C (pe cw x / 5) < C (x / 5) ∨ (C (pe cw x / 5) = C (x / 5) ∧ nmq cw (pe cw x / 5) < nmq cw (x / 5))) := by
    unfold Lt
    rw [r1]
    constructor
    · rintro (z | ⟨-, z⟩)
      · omega
      · exact z
    · exact fun z => Or.inr ⟨rfl, z⟩
  by_cases a : ct 4 (x / 5) = I (x % 5)
  · left
    have ca := (root_port hw h hx a).2
    have nb : ct 4 (pe cw x / 5) ≠ I (pe cw x % 5) := by
      intro b
      have cb := (root_port hw h w1 b).2
      rw [w6, w7] at cb
      omega
    refine ⟨a, nb, ?_, ?_⟩
    · rcases fx with z | z | z
      · exact z.2
      · exact absurd a z.1
      · exact absurd a z.1
    · rcases fy with z | z | z
      · exact absurd z.1 nb
      · exact z.2.2
      · exact absurd (lt_ts.mpr (Or.inl (by omega))) z.2.1
  · right
    by_cases b : ct 4 (pe cw x / 5) = I (pe cw x % 5)
    · left
      have cb := (root_port hw h w1 b).2
      rw [w6, w7] at cb
      refine ⟨a, b, ?_, ?_⟩
      · rcases fx with z | z | z
        · exact absurd z.1 a
        · exact z.2.2
        · exact absurd (lt_st.mpr (Or.inl (by omega))) z.2.1
      · rcases fy with z | z | z
        · exact z.2
        · exact absurd b z.1
        · exact absurd b z.1
    · right
      refine ⟨a, b, ?_⟩
      rcases fx with z | ⟨-, z1, z2⟩ | ⟨-, z1, z2⟩
      · exact absurd z.1 a
      · left
        refine ⟨z2, ?_⟩
        rcases fy with y | ⟨-, y1, y2⟩ | ⟨-, y1, y2⟩
        · exact absurd y.1 b
        · exfalso
          rw [lt_st] at z1
          rw [lt_ts] at y1
          omega
        · exact y2
      · right
        refine ⟨z2, ?_⟩
        rcases fy with y | ⟨-, y1, y2⟩ | ⟨-, y1, y2⟩
        · exact absurd y.1 b
        · exact y2
        · exfalso
          rw [lt_st] at z1
          rw [lt_ts] at y1
          omega
/-- all that a row holds, in an order -/
theorem enum (g : Nat → Int32) : ∀ m, ∃ P : Nat → Nat, (∀ i, i < cnt g m → P i < m ∧ g (P i) ≠ nn) ∧ (∀ i j, i < cnt g m → j < cnt g m → P i = P j → i = j) ∧ ∀ o, o < m → g o ≠ nn → ∃ i, i < cnt g m ∧ P i = o := by
  intro m
  induction m with
  | zero => exact ⟨fun _ => 0, fun i hi => absurd hi (Nat.not_lt_zero i), fun i j hi => absurd hi (Nat.not_lt_zero i), fun o ho => absurd ho (Nat.not_lt_zero o)⟩
  | succ m ih =>
    obtain ⟨P, h1, h2, h3⟩ := ih
    by_cases e : g m = nn
    · have ec : cnt g (m + 1) = cnt g m := by show cnt g m + (if g m = nn then 0 else 1) = _; rw [if_pos e]; rfl
      rw [ec]
      refine ⟨P, fun i hi => ⟨by have := (h1 i hi).1; omega, (h1 i hi).2⟩, h2, fun o ho hg => ?_⟩
      by_cases v : o = m
      · rw [v] at hg; exact absurd e hg
      · exact h3 o (by omega) hg
    · have ec : cnt g (m + 1) = cnt g m + 1 := by show cnt g m + (if g m = nn then 0 else 1) = _; rw [if_neg e]
      rw [ec]
      have pn : upd2 P (cnt g m) m (cnt g m) = m := by unfold upd2; rw [if_pos rfl]
      have po : ∀ i, i < cnt g m → upd2 P (cnt g m) m i = P i := by intro i hi; unfold upd2; rw [if_neg (by omega)]
      refine ⟨upd2 P (cnt g m) m, fun i hi => ?_, fun i j hi hj hij => ?_, fun o ho hg => ?_⟩
      · by_cases v : i = cnt g m
        · rw [v, pn]; exact ⟨by omega, e⟩
        · rw [po i (by omega)]; exact ⟨by have := (h1 i (by omega)).1; omega, (h1 i (by omega)).2⟩
      · by_cases v : i = cnt g m
        · by_cases w : j = cnt g m
          · omega
          · rw [v, pn, po j (by omega)] at hij
            have := (h1 j (by omega)).1; omega
        · by_cases w : j = cnt g m
          · rw [w, pn, po i (by omega)] at hij
            have := (h1 i (by omega)).1; omega
          · rw [po i (by omega), po j (by omega)] at hij
            exact h2 i j (by omega) (by omega) hij
      · by_cases v : o = m
        · exact ⟨cnt g m, by omega, by rw [pn, v]⟩
        · obtain ⟨i, hi, ei⟩ := h3 o (by omega) hg
          exact ⟨i, by omega, by rw [po i hi]; exact ei⟩
/-- a wire both ends of which are open, at its lower end -/
def opw (cw ct : St) (k : Nat) : Int32 := if cw 0 k ≠ nn ∧ ct 6 k = I 1 ∧ ct 6 (pe cw k) = I 1 ∧ k < pe cw k then I 0 else nn
theorem opw_ne (cw ct : St) (k : Nat) : opw cw ct k ≠ nn ↔ (cw 0 k ≠ nn ∧ ct 6 k = I 1 ∧ ct 6 (pe cw k) = I 1 ∧ k < pe cw k) := by
  unfold opw
  by_cases c : cw 0 k ≠ nn ∧ ct 6 k = I 1 ∧ ct 6 (pe cw k) = I 1 ∧ k < pe cw k
  · rw [if_pos c]
    exact ⟨fun _ => c, fun _ => nn_ne0.symm⟩
  · rw [if_neg c]
    exact ⟨fun z => absurd rfl z, fun z => absurd z c⟩
/-- a switch that isn't its own root -/
def hasRp (ct : St) (s : Nat) : Int32 := if ct 4 s = nn then nn else I 0
theorem hasRp_ne (ct : St) (s : Nat) : hasRp ct s ≠ nn ↔ ct 4 s ≠ nn := by
  unfold hasRp
  by_cases c : ct 4 s = nn
  · rw [if_pos c]; exact ⟨fun z => absurd rfl z, fun z => absurd c z⟩
  · rw [if_neg c]; exact ⟨fun _ => c, fun _ => nn_ne0.symm⟩
def lead (ct : St) (s : Nat) : Nat := 5 * s + (ct 4 s).toNatClampNeg
def low (cw ct : St) (s : Nat) : Nat := if lead ct s < pe cw (lead ct s) then lead ct s else pe cw (lead ct s)
theorem lead_ok {cw ct : St} {R C H : Nat → Nat} (hw : WireC cw) (h : RestF cw ct R C H) {s : Nat} (hs : s < 6) (e : ct 4 s ≠ nn) : lead ct s < 30 ∧ lead ct s / 5 = s ∧ ct 4 s = I (lead ct s % 5) ∧ jn cw ct (lead ct s) = true := by
  rcases h.2.1 s hs with ⟨-, -, -, z⟩ | ⟨b, b0, b1, b2, -, -, -, b6⟩
  · exact absurd z e
  · have el : lead ct s = b := by
      unfold lead
      rw [b6, I_nat (by omega)]
      omega
    rw [el]
    exact ⟨b0, b1, b6, b2⟩
theorem open_ends {cw ct : St} {R C H : Nat → Nat} (hw : WireC cw) (hk : RankC cw) (h : RestF cw ct R C H) (hx : XA cw ct) {k : Nat} (hk30 : k < 30) (e : opw cw ct k ≠ nn) : jn cw ct k = true ∧ (ct 4 (k / 5) = I (k % 5) ∨ ct 4 (pe cw k / 5) = I (pe cw k % 5)) := by
  obtain ⟨e0, e1, e2, e3⟩ := (opw_ne cw ct k).mp e
  obtain ⟨w1, w2, -, -, -, -, -, -, w9⟩ := wire_data hw hk30 e0
  have s1 := ((hx k hk30).2.2.2.1 e1).1
  have s2 := ((hx _ w1).2.2.2.1 e2).1
  have j : jn cw ct k = true := Eq.mpr (jn_iff _ _ _) ⟨e0, s1, s2⟩
  refine ⟨j, ?_⟩
  have o1 := h.2.2.2.2.2 k hk30 e0 s1
  have o2 := h.2.2.2.2.2 _ w1 w9 s2
  rcases ends hw hk h hk30 j with z | z | ⟨-, -, z⟩
  · exact Or.inl z.1
  · exact Or.inr z.2.1
  · exfalso
    rcases z with ⟨z1, z2⟩ | ⟨z1, z2⟩
    · rcases o2 with o2 | o2
      · rw [z2, I_inj (by omega) (by omega), I_inj (by omega) (by omega)] at o2; omega
      · rw [e2, I01] at o2; exact o2.1
    · rcases o1 with o1 | o1
      · rw [z1, I_inj (by omega) (by omega), I_inj (by omega) (by omega)] at o1; omega
      · rw [e1, I01] at o1; exact o1.1
theorem lead_open {cw ct : St} {R C H : Nat → Nat} (hw : WireC cw) (hk : RankC cw) (h : RestF cw ct R C H) {x : Nat} (hx : x < 30) (j : jn cw ct x = true) (e : ct 4 (x / 5) = I (x % 5) ∨ ct 4 (pe cw x / 5) = I (pe cw x % 5)) : ct 6 x = I 1 ∧ ct 6 (pe cw x) = I 1 := by
  have jj := Eq.mp (jn_iff _ _ _) j
  obtain ⟨w1, w2, w3, w4, w5, w6, w7, w8, w9⟩ := jn_data hw hx j
  have jy := Eq.mp (jn_iff _ _ _) w9
  have o1 := h.2.2.2.2.2 x hx jj.1 jj.2.1
  have o2 := h.2.2.2.2.2 _ w1 jy.1 jy.2.1
  have r : (ct 7 x = I 1 ∨ ct 7 x = I 2) ∧ (ct 7 (pe cw x) = I 1 ∨ ct 7 (pe cw x) = I 2) := by
    rcases ends hw hk h hx j with z | z | z
    · exact ⟨Or.inl z.2.2.1, Or.inr z.2.2.2⟩
    · exact ⟨Or.inr z.2.2.1, Or.inl z.2.2.2⟩
    · rcases e with e | e
      · exact absurd e z.1
      · exact absurd e z.2.1
  constructor
  · rcases o1 with o | o
    · exact o.1
    · exact absurd r.1 o.2
  · rcases o2 with o | o
    · exact o.1
    · exact absurd r.2 o.2
theorem wires_open {cw ct : St} {R C H : Nat → Nat} (hw : WireC cw) (hk : RankC cw) (h : RestF cw ct R C H) (hx : XA cw ct) : cnt (opw cw ct) 30 = cnt (hasRp ct) 6 := by
  obtain ⟨P, p1, p2, p3⟩ := enum (hasRp ct) 6
  refine cnt_bij (cnt (hasRp ct) 6) (opw cw ct) (fun i => low cw ct (P i)) (fun i hi => ?_) (fun i j hi hj hij => ?_) (fun o ho he => ?_)
  · obtain ⟨q1, q2⟩ := p1 i hi
    obtain ⟨l1, l2, l3, l4⟩ := lead_ok hw h q1 ((hasRp_ne _ _).mp q2)
    obtain ⟨w1, w2, w3, w4, w5, w6, w7, w8, w9⟩ := jn_data hw l1 l4
    obtain ⟨o1, o2⟩ := lead_open hw hk h l1 l4 (Or.inl (by rw [l2]; exact l3))
    have jj := Eq.mp (jn_iff _ _ _) l4
    have jy := Eq.mp (jn_iff _ _ _) w9
    show low cw ct (P i) < 30 ∧ opw cw ct (low cw ct (P i)) ≠ nn
    unfold low
    by_cases c : lead ct (P i) < pe cw (lead ct (P i))
    · rw [if_pos c]
      exact ⟨l1, (opw_ne _ _ _).mpr ⟨jj.1, o1, o2, c⟩⟩
    · rw [if_neg c]
      refine ⟨w1, (opw_ne _ _ _).mpr ⟨jy.1, o2, by rw [w6]; exact o1, ?_⟩⟩
      rw [w6]
      have : pe cw (lead ct (P i)) ≠ lead ct (P i) := fun z => w8 (by rw [z])
      omega
  · obtain ⟨q1, q2⟩ := p1 i hi
    obtain ⟨q3, q4⟩ := p1 j hj
    obtain ⟨l1, l2, l3, l4⟩ := lead_ok hw h q1 ((hasRp_ne _ _).mp q2)
    obtain ⟨m1, m2, m3, m4⟩ := lead_ok hw h q3 ((hasRp_ne _ _).mp q4)
    obtain ⟨w1, w2, w3, w4, w5, w6, w7, w8, w9⟩ := jn_data hw l1 l4
    obtain ⟨v1, v2, v3, v4, v5, v6, v7, v8, v9⟩ := jn_data hw m1 m4
    have hij : low cw ct (P i) = low cw ct (P j) := hij
    have same : lead ct (P i) = lead ct (P j) → i = j := by
      intro e
      refine p2 i j hi hj ?_
      rw [← l2, ← m2, e]
    have cross : lead ct (P i) = pe cw (lead ct (P j)) → i = j := by
      intro e
      exfalso
      have c1 := (root_port hw h l1 (by rw [l2]; exact l3)).2
      have c2 := (root_port hw h m1 (by rw [m2]; exact m3)).2
      rw [e, v6, v7] at c1
      omega
    unfold low at hij
    by_cases a : lead ct (P i) < pe cw (lead ct (P i))
    · rw [if_pos a] at hij
      by_cases b : lead ct (P j) < pe cw (lead ct (P j))
      · rw [if_pos b] at hij; exact same hij
      · rw [if_neg b] at hij; exact cross hij
    · rw [if_neg a] at hij
      by_cases b : lead ct (P j) < pe cw (lead ct (P j))
      · rw [if_pos b] at hij
        exact cross (by rw [← w6, hij])
      · rw [if_neg b] at hij
        exact same (by rw [← w6, hij, v6])
  · obtain ⟨e0, e1, e2, e3⟩ := (opw_ne cw ct o).mp he
    obtain ⟨j, e4⟩ := open_ends hw hk h hx ho he
    obtain ⟨w1, w2, w3, w4, w5, w6, w7, w8, w9⟩ := jn_data hw ho j
    rcases e4 with e4 | e4
    · have ne : ct 4 (o / 5) ≠ nn := by rw [e4, ne_eq, I_nn (by omega)]; exact fun z => z
      obtain ⟨i, hi, ei⟩ := p3 (o / 5) (by omega) ((hasRp_ne _ _).mpr ne)
      refine ⟨i, hi, ?_⟩
      show low cw ct (P i) = o
      have el : lead ct (P i) = o := by
        rw [ei]
        unfold lead
        rw [e4, I_nat (by omega)]
        omega
      unfold low
      rw [el, if_pos e3]
    · have ne : ct 4 (pe cw o / 5) ≠ nn := by rw [e4, ne_eq, I_nn (by omega)]; exact fun z => z
      obtain ⟨i, hi, ei⟩ := p3 (pe cw o / 5) (by omega) ((hasRp_ne _ _).mpr ne)
      refine ⟨i, hi, ?_⟩
      show low cw ct (P i) = o
      have el : lead ct (P i) = pe cw o := by
        rw [ei]
        unfold lead
        rw [e4, I_nat (by omega)]
        omega
      unfold low
      rw [el, w6, if_neg (by omega)]

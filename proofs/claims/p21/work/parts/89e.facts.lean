/-! ===== at rest, without guards ===== -/
def RestF (cw ct : St) (R C H : Nat → Nat) : Prop :=
  Nums ct R C H ∧
  (∀ s, s < 6 → (R s = s ∧ C s = 0 ∧ H s = 0 ∧ ct 4 s = nn) ∨ ∃ b, b < 30 ∧ b / 5 = s ∧ jn cw ct b = true ∧ R s = R (pe cw b / 5) ∧ C s = C (pe cw b / 5) + cst cw b ∧ H s = H (pe cw b / 5) + 1 ∧ ct 4 s = I (b % 5)) ∧
  (∀ s, s < 6 → nmq cw (R s) ≤ nmq cw s) ∧
  (∀ x, x < 30 → jn cw ct x = true → H (pe cw x / 5) < 7 → nmq cw (R (x / 5)) < nmq cw (R (pe cw x / 5)) ∨ (R (x / 5) = R (pe cw x / 5) ∧ C (x / 5) ≤ C (pe cw x / 5) + cst cw x)) ∧
  (∀ k, k < 30 → jn cw ct k = true → (ct 4 (k / 5) = I (k % 5) ∧ ct 7 k = I 1) ∨ (ct 4 (k / 5) ≠ I (k % 5) ∧ Lt cw R C (k / 5) (pe cw k / 5) ∧ ct 7 k = I 2) ∨ (ct 4 (k / 5) ≠ I (k % 5) ∧ ¬ Lt cw R C (k / 5) (pe cw k / 5) ∧ ct 7 k = I 3)) ∧
  (∀ k, k < 30 → cw 0 k ≠ nn → ct 5 k = I 0 → (ct 6 k = I 1 ∧ (ct 7 k = I 1 ∨ ct 7 k = I 2)) ∨ (ct 6 k = I 0 ∧ ¬ (ct 7 k = I 1 ∨ ct 7 k = I 2)))
theorem key_le {V : Nat → Nat → Nat} {r : Nat → Int32} (hN : TN V r) (hB : TB V) {x y : Nat} (hx : x < 30) (hy : y < 30) (tx : V 5 x ≠ 0) (ty : V 5 y ≠ 0) (h : key V x ≤ key V y) : nk V (V 0 x) < nk V (V 0 y) ∨ (V 0 x = V 0 y ∧ V 1 x + V 4 x ≤ V 1 y + V 4 y) := by
  obtain ⟨a1, a2, a3, a4, a5, a6⟩ := hB.1 x hx tx
  obtain ⟨b1, b2, b3, b4, b5, b6⟩ := hB.1 y hy ty
  have n1 := nk_lt hN a1
  have n2 := nk_lt hN b1
  have n3 := nk_lt hN (show V 3 x / 5 < 6 by omega)
  have n4 := nk_lt hN (show V 3 y / 5 < 6 by omega)
  unfold key at h
  by_cases e : nk V (V 0 x) = nk V (V 0 y)
  · right
    refine ⟨nk_inj hN a1 b1 e, ?_⟩
    rw [e] at h
    omega
  · left
    omega
theorem skey_le {V : Nat → Nat → Nat} {r : Nat → Int32} (hN : TN V r) (hB : TB V) {s y : Nat} (hs : s < 6) (hy : y < 30) (ty : V 5 y ≠ 0) (h : skey V s ≤ key V y) : nk V s < nk V (V 0 y) ∨ (s = V 0 y ∧ 0 ≤ V 1 y + V 4 y) := by
  obtain ⟨b1, b2, b3, b4, b5, b6⟩ := hB.1 y hy ty
  have n1 := nk_lt hN hs
  have n2 := nk_lt hN b1
  have n4 := nk_lt hN (show V 3 y / 5 < 6 by omega)
  unfold skey key at h
  by_cases e : nk V s = nk V (V 0 y)
  · right
    exact ⟨nk_inj hN hs b1 e, by omega⟩
  · left
    omega
theorem key_s {V : Nat → Nat → Nat} {r : Nat → Int32} (hN : TN V r) (hB : TB V) {s y : Nat} (hs : s < 6) (hy : y < 30) (ty : V 5 y ≠ 0) (h : key V y < skey V s) : nk V (V 0 y) ≤ nk V s := by
  obtain ⟨b1, b2, b3, b4, b5, b6⟩ := hB.1 y hy ty
  have n1 := nk_lt hN hs
  have n2 := nk_lt hN b1
  unfold skey key at h
  omega
theorem rest_facts {N n : Nat} {cs cw ct cl cb cg cu : St} (h : LInv N n cs cw ct cl cb cg) (hg : ∀ k, k < 30 → cw 3 k = I 0) : Pc (fX5_isAtRest cw ct cu) (fun r => r.1 = I 1 → ∃ R C H, RestF cw ct R C H) := by
  obtain ⟨⟨mm, hr⟩, ⟨c1, c2, c3, c4⟩, lw, -⟩ := id h
  have hw := wireC hr
  have ho := rel_one hr
  have hk := rankC hr
  obtain ⟨R, eR⟩ : ∃ R : Nat → Nat, R = fun s => (ct 1 s).toNatClampNeg := ⟨_, rfl⟩
  obtain ⟨C, eC⟩ : ∃ C : Nat → Nat, C = fun s => (ct 2 s).toNatClampNeg := ⟨_, rfl⟩
  obtain ⟨H, eH⟩ : ∃ H : Nat → Nat, H = fun s => (ct 3 s).toNatClampNeg := ⟨_, rfl⟩
  have hn : Nums ct R C H := by
    intro s hs
    obtain ⟨⟨r, r1, r2⟩, ⟨e, c, e1, e2, e3, e4⟩, -⟩ := rel_tree hr hs
    have fR : R s = r := by rw [eR]; show (ct 1 s).toNatClampNeg = r; rw [r2, I_nat (by omega)]
    have fC : C s = c := by rw [eC]; show (ct 2 s).toNatClampNeg = c; rw [e4, I_nat (by omega)]
    have fH : H s = e := by rw [eH]; show (ct 3 s).toNatClampNeg = e; rw [e3, I_nat (by omega)]
    rw [fR, fC, fH]
    exact ⟨r1, e2, e1, r2, e4, e3⟩
  unfold fX5_isAtRest
  refine pc_bd (p_copy cu ct) fun a ha => ?_
  obtain ⟨a1, a2⟩ := ha
  have hna : Nums a R C H := by
    intro s hs
    obtain ⟨x1, x2, x3, -⟩ := a1 s hs
    rw [x1, x2, x3]
    exact hn s hs
  have ja : ∀ k, k < 30 → jn cw a k = jn cw ct k := by
    intro k hk30
    unfold jn
    by_cases e : cw 0 k = nn
    · simp [e]
    · obtain ⟨w1, -⟩ := wire_data hw hk30 e
      rw [(a2 k hk30).1, (a2 _ w1).1]
  refine pc_bd (p_pass2 hw ho hk hg hna) fun c hc => pc_bd (p_looks c ct) fun r hr1 => pc_if (fun _ => pc_some (fun z => absurd z.symm z10)) (fun r0 => pc_bd (p_waits c) fun w hw1 => pc_if (fun w0 => pc_some fun _ => ?_) (fun _ => pc_some (fun z => absurd z.symm z10)))
  rcases hr1 with hr1 | ⟨-, k1, k2⟩
  · exact absurd hr1 r0
  rcases hw1 with hw1 | ⟨-, k3⟩
  · rw [hw1] at w0; exact absurd w0 z10
  obtain ⟨d, d1, ⟨q1, q2, q3, q4⟩, ⟨d5, d6, d8⟩, dT, dR⟩ := hc
  obtain ⟨V, eV⟩ : ∃ V, V = tv cw a R C H := ⟨_, rfl⟩
  rw [← eV] at d1 dT
  have hN : TN V (cw 5) := by rw [eV]; exact tv_TN hk R C H
  have hB : TB V := by rw [eV]; exact tv_TB hw hna
  have v5 : ∀ k, k < 30 → ((V 5 k ≠ 0) = (jn cw ct k = true)) := by intro k hk30; rw [eV, tv5, ja k hk30]
  have v0 : ∀ k, V 0 k = R (pe cw k / 5) := by intro k; rw [eV]; rfl
  have v1 : ∀ k, V 1 k = C (pe cw k / 5) := by intro k; rw [eV]; rfl
  have v2 : ∀ k, V 2 k = H (pe cw k / 5) := by intro k; rw [eV]; rfl
  have v4 : ∀ k, V 4 k = cst cw k := by intro k; rw [eV]; rfl
  have vn : ∀ j, nk V j = nmq cw j := by intro j; rw [eV]; rfl
  -- the port that leads on is the one of before
  have rp : ∀ s, s < 6 → c 4 s = ct 4 s := by
    intro s hs
    obtain ⟨b, hb, -⟩ := d1 s hs
    obtain ⟨l1, l2, l3⟩ := k1 s hs
    obtain ⟨-, -, rt⟩ := rel_tree hr hs
    rcases hb with ⟨b0, b1, -, -, b4⟩ | ⟨b0, b1, b2, b3, b4, b5, b6, b7⟩
    · rw [q4, b4]
      rcases rt with rt | ⟨p, p1, p2, p3⟩
      · exact rt.symm
      · refine absurd ?_ p3
        rw [← l1, q1, b1]
    · have jb : jn cw ct b = true := by rw [← v5 b b0]; exact b2
      obtain ⟨w1, w2, -⟩ := jn_data hw b0 jb
      have jj := Eq.mp (jn_iff _ _ _) jb
      obtain ⟨r', ro, r7, -⟩ := dR b b0
      have e7 : r' = I 1 := by
        obtain ⟨k', hk', ek, -, -, p3⟩ := p_role d cw (I b) r' ro
        rw [I_inj (by omega) (by omega)] at ek
        subst ek
        rcases p3 jj.1 (by rw [d5, (a2 b b0).1]; exact jj.2.1) with z | z | z
        · exact z.1
        · exact absurd (by rw [b1, b7]) z.2.1
        · exact absurd (by rw [b1, b7]) z.2.1
      have := rel_rp hr b0 (by rw [← (k2 b b0).2, r7, e7])
      rw [q4, b7, ← b1]
      exact this.symm
  have dval : ∀ s, s < 6 → d 1 s = I (R s) ∧ d 2 s = I (C s) ∧ d 3 s = I (H s) ∧ d 4 s = ct 4 s := by
    intro s hs
    obtain ⟨l1, l2, l3⟩ := k1 s hs
    obtain ⟨-, -, -, n4, n5, n6⟩ := hn s hs
    exact ⟨by rw [← q1, l1, n4], by rw [← q2, l2, n5], by rw [← q3, l3, n6], by rw [← q4, rp s hs]⟩
  -- the role of a port that is wired and not shut
  have role : ∀ k, k < 30 → cw 0 k ≠ nn → ct 5 k = I 0 → (ct 4 (k / 5) = I (k % 5) ∧ ct 7 k = I 1) ∨ (ct 4 (k / 5) ≠ I (k % 5) ∧ (d 10 k = nn ∨ fX3_isHeldBetter d cw (I k) ≠ some (I 0)) ∧ ct 7 k = I 2) ∨ (ct 4 (k / 5) ≠ I (k % 5) ∧ d 10 k ≠ nn ∧ fX3_isHeldBetter d cw (I k) = some (I 0) ∧ ct 7 k = I 3) := by
    intro k hk30 e0 e5
    obtain ⟨r', ro, r7, -⟩ := dR k hk30
    rw [(k2 k hk30).2] at r7
    obtain ⟨k', hk', ek, -, -, p3⟩ := p_role d cw (I k) r' ro
    rw [I_inj (by omega) (by omega)] at ek
    subst ek
    have d4 := (dval (k / 5) (by omega)).2.2.2
    rw [d4] at p3
    rcases p3 e0 (by rw [d5, (a2 k hk30).1]; exact e5) with ⟨z1, z2⟩ | ⟨z1, z2, z3⟩ | ⟨z1, z2, z3, z4⟩
    · exact Or.inl ⟨z2, by rw [r7, z1]⟩
    · exact Or.inr (Or.inl ⟨z2, z3, by rw [r7, z1]⟩)
    · exact Or.inr (Or.inr ⟨z2, z3, z4, by rw [r7, z1]⟩)
  refine ⟨R, C, H, hn, fun s hs => ?_, fun s hs => ?_, fun x hx jx hx7 => ?_, fun k hk30 jk => ?_, fun k hk30 e0 e5 => ?_⟩
  · obtain ⟨b, hb, -⟩ := d1 s hs
    obtain ⟨y1, y2, y3, y4⟩ := dval s hs
    obtain ⟨n1, n2, n3, -⟩ := hn s hs
    rcases hb with ⟨b0, b1, b2, b3, b4⟩ | ⟨b0, b1, b2, b3, b4, b5, b6, b7⟩
    · left
      rw [y1, I_inj (by omega) (by omega)] at b1
      rw [y2, I_inj (by omega) (by omega)] at b2
      rw [y3, I_inj (by omega) (by omega)] at b3
      exact ⟨b1, b2, b3, by rw [← y4, b4]⟩
    · right
      have jb : jn cw ct b = true := by rw [← v5 b b0]; exact b2
      obtain ⟨w1, w2, w3, w4, -⟩ := jn_data hw b0 jb
      obtain ⟨m1, m2, m3, -⟩ := hn (pe cw b / 5) (by omega)
      rw [v0, y1, I_inj (by omega) (by omega)] at b4
      rw [v1, v4, y2, I_inj (by omega) (by omega)] at b5
      rw [v2, y3, I_inj (by omega) (by omega)] at b6
      exact ⟨b, b0, b1, jb, b4, b5, b6, by rw [← y4, b7]⟩
  · obtain ⟨b, hb, hs2⟩ := d1 s hs
    obtain ⟨y1, -⟩ := dval s hs
    obtain ⟨n1, -⟩ := hn s hs
    rcases hb with ⟨b0, b1, -⟩ | ⟨b0, b1, b2, b3, b4, -⟩
    · rw [y1, I_inj (by omega) (by omega)] at b1
      rw [b1]; exact Nat.le_refl _
    · obtain ⟨m1, -⟩ := hB.1 b b0 b2
      rw [y1, I_inj (by omega) (by omega)] at b4
      rcases hs2 with ⟨z, -⟩ | ⟨-, -, z, -⟩
      · omega
      · have := key_s hN hB hs b0 b2 z
        rw [vn, vn, ← b4] at this
        exact this
  · obtain ⟨b, hb, hs2⟩ := d1 (x / 5) (by omega)
    obtain ⟨y1, y2, -⟩ := dval (x / 5) (by omega)
    obtain ⟨n1, n2, n3, -⟩ := hn (x / 5) (by omega)
    have tx : V 5 x ≠ 0 := by rw [v5 x hx]; exact jx
    have zx : Zs V (x / 5) x := ⟨hx, rfl, by rw [v2]; exact hx7, tx⟩
    rcases hb with ⟨b0, b1, b2, -⟩ | ⟨b0, b1, b2, b3, b4, b5, -⟩
    · rw [y1, I_inj (by omega) (by omega)] at b1
      rw [y2, I_inj (by omega) (by omega)] at b2
      rcases hs2 with ⟨-, z⟩ | ⟨z, -⟩
      · have := skey_le hN hB (show x / 5 < 6 by omega) hx tx (z x zx)
        rw [vn, vn, v0] at this
        rw [b1, b2]
        rcases this with t | ⟨t, -⟩
        · exact Or.inl t
        · exact Or.inr ⟨t, by omega⟩
      · omega
    · obtain ⟨m1, m2, m3, m4, m5, m6⟩ := hB.1 b b0 b2
      rw [y1, I_inj (by omega) (by omega)] at b4
      rw [y2, I_inj (by omega) (by omega)] at b5
      rcases hs2 with ⟨z, -⟩ | ⟨-, -, -, z⟩
      · omega
      · have := key_le hN hB b0 hx b2 tx (z x zx)
        rw [vn, vn, ← b4, ← b5, v0, v1, v4] at this
        exact this
  · have jj := Eq.mp (jn_iff _ _ _) jk
    obtain ⟨w1, w2, w3, w4, -⟩ := jn_data hw hk30 jk
    have tk : V 5 k ≠ 0 := by rw [v5 k hk30]; exact jk
    obtain ⟨u1, u2, -⟩ := (dT k hk30).2 tk
    rw [v0] at u1
    rw [v1] at u2
    obtain ⟨y1, y2, -⟩ := dval (k / 5) (by omega)
    obtain ⟨n1, n2, n3, -⟩ := hn (k / 5) (by omega)
    obtain ⟨m1, m2, m3, -⟩ := hn (pe cw k / 5) (by omega)
    have hbe := hb_eval (cw := cw) (d := d) hk (R := R) (C := C) hk30 (show pe cw k / 5 < 6 by omega) rfl w2 w1 n1 m1 (by omega) (by omega) y1 y2 u1 u2
    have un : d 10 k ≠ nn := by rw [u1, ne_eq, I_nn (by omega)]; exact fun z => z
    rcases role k hk30 jj.1 jj.2.1 with z | ⟨z1, z2, z3⟩ | ⟨z1, z2, z3, z4⟩
    · exact Or.inl z
    · right; left
      refine ⟨z1, ?_, z3⟩
      rcases hbe with ⟨x1, -⟩ | ⟨-, x2⟩
      · exact x1
      · rcases z2 with z2 | z2
        · exact absurd z2 un
        · exact absurd x2 z2
    · right; right
      refine ⟨z1, ?_, z4⟩
      rcases hbe with ⟨-, x2⟩ | ⟨x1, -⟩
      · rw [z3] at x2
        exact absurd (Option.some.inj x2) (by decide)
      · exact x1
  · obtain ⟨r', ro, r7, tr⟩ := dR k hk30
    have e5a : a 5 k = I 0 := by rw [(a2 k hk30).1]; exact e5
    obtain ⟨t1, t2, t3, -⟩ := tr e5a
    rw [(k2 k hk30).2] at t1 r7
    rw [(k2 k hk30).1] at t2 t3
    have a6 : a 6 k = ct 6 k := by
      obtain ⟨-, -, -, -, x5⟩ := c1 k hk30
      rw [(a2 k hk30).2.1]
      rcases x5 with x5 | x5 <;> rw [x5] <;> decide
    rw [d6, a6, d8, (a2 k hk30).2.2.2] at t2
    rw [t1]
    by_cases rr : r' = I 1 ∨ r' = I 2
    · left
      refine ⟨?_, rr⟩
      obtain ⟨x1, x2⟩ := t2 e0 rr
      obtain ⟨-, -, -, -, x5⟩ := c1 k hk30
      rcases x5 with x5 | x5
      · rcases x2 x5 with ⟨-, x3⟩ | x3
        · obtain ⟨q, hq, eq⟩ := rel_wait hr hk30 e0 x5
          have := k3 k hk30
          rw [x3, eq, I_succ, zeroI, I_le (by omega) (by omega)] at this
          omega
        · exact x3
      · exact x5
    · right
      exact ⟨t3 e0 rr, rr⟩

/-! ===== the law's look at rest ===== -/
def rts (R : Nat → Nat) : Nat → Nat
  | 0 => 0
  | m + 1 => rts R m + (if R m = m then 1 else 0)
theorem rts_le (R : Nat → Nat) : ∀ m, rts R m ≤ m := by
  intro m
  induction m with
  | zero => exact Nat.le_refl _
  | succ m ih =>
    show rts R m + (if R m = m then 1 else 0) ≤ m + 1
    by_cases c : R m = m
    · rw [if_pos c]; omega
    · rw [if_neg c]; omega
theorem root_iff {N : Nat} {cs cw ct cl cb mm : St} (hr : Rel N cs cw ct cl cb mm) {R C H : Nat → Nat} (h : RestF cw ct R C H) {s : Nat} (hs : s < 6) : (R s = s) ↔ ct 4 s = nn := by
  obtain ⟨n1, n2, n3, n4, -⟩ := h.1 s hs
  obtain ⟨-, -, rt⟩ := rel_tree hr hs
  rcases h.2.1 s hs with ⟨z, -, -, z4⟩ | ⟨b, b0, b1, b2, -, -, -, b6⟩
  · exact ⟨fun _ => z4, fun _ => z⟩
  · constructor
    · intro e
      rcases rt with rt | ⟨p, -, -, p3⟩
      · exact rt
      · exact absurd (by rw [n4, e]) p3
    · intro e
      rw [e, nn_I (by omega)] at b6; cases b6
theorem rts_cnt {N : Nat} {cs cw ct cl cb mm : St} (hr : Rel N cs cw ct cl cb mm) {R C H : Nat → Nat} (h : RestF cw ct R C H) : ∀ m, m ≤ 6 → rts R m + cnt (hasRp ct) m = m := by
  intro m
  induction m with
  | zero => intro _; rfl
  | succ m ih =>
    intro hm
    show rts R m + (if R m = m then 1 else 0) + (cnt (hasRp ct) m + (if hasRp ct m = nn then 0 else 1)) = m + 1
    have i := ih (by omega)
    have ri := root_iff hr h (show m < 6 by omega)
    by_cases c : R m = m
    · have : hasRp ct m = nn := by unfold hasRp; rw [if_pos (ri.mp c)]
      rw [if_pos c, if_pos this]; omega
    · have : hasRp ct m ≠ nn := (hasRp_ne ct m).mpr (fun z => c (ri.mpr z))
      rw [if_neg c, if_neg this]; omega
theorem law_at {N n : Nat} {cs cw ct cl cb cg : St} (h : LInv N n cs cw ct cl cb cg) {k : Nat} (hk : k < 30) (e : cw 0 k ≠ nn) : pe cw k < 30 ∧ cg 0 k = I (pe cw k) ∧ cg 1 k = I (cst cw k) := by
  obtain ⟨⟨mm, hr⟩, -, lw, -⟩ := h
  obtain ⟨w1, w2, w3, w4, w5, -⟩ := wire_data (wireC hr) hk e
  rcases lw k hk with ⟨z1, z2, z3⟩ | ⟨z1, -⟩ | ⟨z1, -⟩
  · exact ⟨w1, by rw [z2, w2], by rw [z3, w5]⟩
  · exact absurd z1 e
  · exact absurd z1 e
theorem tree_switch {N n : Nat} {cs cw ct cl cb cg : St} (h : LInv N n cs cw ct cl cb cg) {R C H : Nat → Nat} (hf : RestF cw ct R C H) {s : Nat} (hs : s < 6) (rec : Int32 × Int32 × Int32 → Option Int32) : fL_isTree_S12 rec cs ct cb cg 0 (I 1) (I (rts R s)) (I s) = rec (I 1, I (rts R (s + 1)), I (s + 1)) := by
  obtain ⟨⟨mm, hr⟩, ⟨c1, -⟩, lw, lh, lk, -⟩ := id h
  have hw := wireC hr
  have hk := rankC hr
  obtain ⟨n1, n2, n3, n4, n5, n6⟩ := hf.1 s hs
  obtain ⟨v0, v1, v2, v3, v4⟩ := holdsv ct cb hs
  have ri := root_iff hr hf hs
  have fe : fL_found cs ct cg (I s) = some (I (1000 * R s + C s)) := by
    rw [found_l (cs := cs) hw (rel_one hr) hk lw lk hs, found_held hw hk hf hs]
  have ar : (1000 : Int32) * I (R s) + I (C s) = I (1000 * R s + C s) := by
    show I 1000 * I (R s) + I (C s) = _
    rw [I_mul, I_add]
  -- from the root's mark on
  have j123 : ∀ (x6 y : Int32), (y = 1 ∧ R s = s) ∨ (y = 0 ∧ R s ≠ s) → fL_isTree_J123 rec cs ct cb cg 0 x6 (I s) (I (C s)) (ct 4 s) y (if R s = s then 1 else 0) = rec (I 1, x6, I (s + 1)) := by
    intro x6 y hy
    unfold fL_isTree_J123
    have ey : (if R s = s then (1 : Int32) else 0) = y := by
      rcases hy with ⟨rfl, e⟩ | ⟨rfl, e⟩
      · rw [if_pos e]
      · rw [if_neg e]
    rw [ey, if_pos rfl]
    rcases hf.2.1 s hs with ⟨z, -, -, z4⟩ | ⟨b, b0, b1, b2, -, b4, -, b6⟩
    · rw [z4, if_pos (show nn < 0 by decide), I_succ]; rfl
    · obtain ⟨w1, w2, w3, w4, w5, w6, w7, w8, w9⟩ := jn_data hw b0 b2
      have jj := Eq.mp (jn_iff _ _ _) b2
      obtain ⟨m1, m2, m3⟩ := law_at h b0 jj.1
      have o := (lead_open hw hk hf b0 b2 (Or.inl (by rw [b1]; exact b6))).1
      have r1 : ct 7 b = I 1 := by
        rcases ends hw hk hf b0 b2 with z | z | z
        · exact z.2.2.1
        · exact absurd (by rw [b1]; exact b6) z.1
        · exact absurd (by rw [b1]; exact b6) z.1
      have sp : (5 * I s) + I (b % 5) = I b := by
        show I 5 * I s + I (b % 5) = _
        rw [I_mul, I_add]
        congr 1
        omega
      have p0 := port0v cs ct b0
      have p1 := port1v cs ct b0
      rw [b1, if_neg (show ¬ ct 6 b = I 0 by rw [o]; decide)] at p0
      rw [b1, r1] at p1
      obtain ⟨t1, t2, t3, t4, t5, t6⟩ := hf.1 (pe cw b / 5) (by omega)
      obtain ⟨-, g1, -⟩ := holdsv ct cb (show pe cw b / 5 < 6 by omega)
      have pb : ¬ I (pe cw b) < 0 := by rw [zeroI, I_f (by omega) (by omega)]; exact fun z => z
      have pc : ¬ (100 : Int32) ≤ I (pe cw b) := by rw [lit, I_lt_f (by omega) (by omega)]; exact fun z => z
      have p5 : ¬ I (b % 5) < 0 := by rw [zeroI, I_f (by omega) (by omega)]; exact fun z => z
      rw [b6, if_neg p5, sp, inb_t b0 (by omega), ck1, ck1, ck1, I_nat (by omega), m2, m3, if_neg pb, if_neg pc, p0, bn1, if_pos (show I 1 = 1 from rfl), p1, bn1, if_pos (show I 1 = 1 from rfl), div5 (by omega), g1, bn1, ck1, t5, I_add, ← b4, if_pos rfl, I_succ]
      rfl
  unfold fL_isTree_S12
  rw [if_neg (show ¬ (6 : Int32) ≤ I s by rw [lit, I_lt_f (by omega) (by omega)]; exact fun z => z), if_neg z10, v0, bn1, v1, bn1, fe, bd1, n4, n5, ar, if_pos rfl]
  unfold fL_isTree_J68 fL_isTree_J84 fL_isTree_J111
  have e111 : ∀ (x6 y : Int32), (y = 1 ∧ R s = s) ∨ (y = 0 ∧ R s ≠ s) → (if I (R s) = I s then fL_isTree_J123 rec cs ct cb cg 0 x6 (I s) (I (C s)) (ct 4 s) 1 y else fL_isTree_J123 rec cs ct cb cg 0 x6 (I s) (I (C s)) (ct 4 s) 0 y) = rec (I 1, x6, I (s + 1)) := by
    intro x6 y hy
    have ey : y = (if R s = s then (1 : Int32) else 0) := by
      rcases hy with ⟨rfl, e⟩ | ⟨rfl, e⟩
      · rw [if_pos e]
      · rw [if_neg e]
    rw [ey]
    by_cases e : R s = s
    · rw [if_pos (by rw [e])]
      exact j123 x6 1 (Or.inl ⟨rfl, e⟩)
    · rw [if_neg (by rw [I_inj (by omega) (by omega)]; exact e)]
      exact j123 x6 0 (Or.inr ⟨rfl, e⟩)
  have e84 : ∀ (x6 : Int32), (if 0 ≤ ct 4 s then (if I (R s) = I s then fL_isTree_J123 rec cs ct cb cg 0 x6 (I s) (I (C s)) (ct 4 s) 1 0 else fL_isTree_J123 rec cs ct cb cg 0 x6 (I s) (I (C s)) (ct 4 s) 0 0) else (if I (R s) = I s then fL_isTree_J123 rec cs ct cb cg 0 x6 (I s) (I (C s)) (ct 4 s) 1 1 else fL_isTree_J123 rec cs ct cb cg 0 x6 (I s) (I (C s)) (ct 4 s) 0 1)) = rec (I 1, x6, I (s + 1)) := by
    intro x6
    obtain ⟨-, -, rt⟩ := rel_tree hr hs
    rcases rt with rt | ⟨p, p1, p2, -⟩
    · rw [if_neg (by rw [rt]; decide)]
      exact e111 x6 1 (Or.inl ⟨rfl, ri.mpr rt⟩)
    · have nr : R s ≠ s := fun z => by
        have := ri.mp z
        rw [p2, I_nn (by omega)] at this; exact this
      rw [if_pos (show (0 : Int32) ≤ ct 4 s by rw [p2, zeroI, I_lt_t (by omega) (by omega)]; trivial)]
      exact e111 x6 0 (Or.inr ⟨rfl, nr⟩)
  rw [v3, bn1, bn1, if_neg (show ¬ (1 : Int32) = 0 by decide), e84, if_neg (show ¬ (1 : Int32) = 0 by decide), e84]
  show _ = rec (I 1, I (rts R s + (if R s = s then 1 else 0)), I (s + 1))
  by_cases e : R s = s
  · rw [if_pos (by rw [e]), if_pos e, I_succ]
  · rw [if_neg (by rw [I_inj (by omega) (by omega)]; exact e), if_neg e]
    show rec (I 1, I _ + I 0, _) = _
    rw [I_add]

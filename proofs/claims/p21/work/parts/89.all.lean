/-! ===== the law's look at all ===== -/
theorem port0v (cs ct : St) {p : Nat} (hp : p < 30) : fX5_port cs ct (I (p / 5)) (I (p % 5)) 0 = some (.inl (if ct 6 p = I 0 then I 0 else I 1)) := by
  have n1 := needPort_t (a := p / 5) (b := p % 5) (by omega) (by omega)
  unfold fX5_port
  rw [n1, bx1, spotN hp, bd1, if_pos rfl, inb_t hp (by omega), ck1, I_nat (by omega)]
  by_cases e : ct 6 p = I 0
  · rw [if_pos e, if_pos (show ct 6 p = 0 from e)]; rfl
  · rw [if_neg e, if_neg (show ¬ ct 6 p = 0 from e)]; rfl
theorem port1v (cs ct : St) {p : Nat} (hp : p < 30) : fX5_port cs ct (I (p / 5)) (I (p % 5)) 1 = some (.inl (ct 7 p)) := by
  have n1 := needPort_t (a := p / 5) (b := p % 5) (by omega) (by omega)
  unfold fX5_port
  rw [n1, bx1, spotN hp, bd1, if_neg (by decide), if_pos rfl, inb_t hp (by omega), ck1, I_nat (by omega)]
theorem port3v (cs ct : St) {p : Nat} (hp : p < 30) : fX5_port cs ct (I (p / 5)) (I (p % 5)) 3 = some (.inl (cs 6 p)) := by
  have n1 := needPort_t (a := p / 5) (b := p % 5) (by omega) (by omega)
  unfold fX5_port
  rw [n1, bx1, spotN hp, bd1, if_neg (by decide), if_neg (by decide), if_neg (by decide), if_pos rfl, inb_t hp (by omega), ck1, I_nat (by omega)]
theorem rel_role {N : Nat} {cs cw ct cl cb mm : St} (h : Rel N cs cw ct cl cb mm) {k : Nat} (hk : k < 30) : (cw 0 k = nn → ct 7 k = I 0) ∧ isI 4 (ct 7 k) := by
  have p := h.2.2.2.2.2.2.2.1 k hk
  have c := h.2.2.2.2.2.2.2.2.2.2.2.2.2.2.2.1 k hk
  have w := h.2.2.2.2.2.2.2.2.2.2.1 k hk
  rw [c.2.1, w.1]
  exact ⟨p.2.2.2.2.2.2.1, p.2.2.1⟩
theorem all_port {N n : Nat} {cs cw ct cl cb cg : St} (h : LInv N n cs cw ct cl cb cg) (hn : n ≤ 90) {k : Nat} (hk : k < 30) (rec : Int32 × Int32 → Option (Int32 × St)) : fL_areAll_S9 rec cs cw ct cb cg 0 (I 1) (I k) = rec (I 1, I (k + 1)) := by
  obtain ⟨⟨mm, hr⟩, ⟨c1, c2, c3, c4⟩, lw, -⟩ := id h
  obtain ⟨x1, x2, x3, x4, x5⟩ := c1 k hk
  obtain ⟨r1, r, r2, r3⟩ := rel_role hr hk
  obtain ⟨q, q1, q2⟩ := c4 k hk
  have p0 := port0v cs ct hk
  have p1 := port1v cs ct hk
  have p2 := port2b cs ct hk
  have p3 := port3v cs ct hk
  have fin : ∀ x8, x8 = I k → fL_areAll_J195 rec cs cw ct cb cg 0 x8 (I (k / 5)) = rec (I 1, I (k + 1)) := by
    intro x8 e
    subst e
    unfold fL_areAll_J195
    rw [mod5 (by omega), p3, bn1, bn1, q1, if_neg (show ¬ I q < 0 by rw [zeroI, I_f (by omega) (by omega)]; exact fun z => z), if_neg (show ¬ (200 : Int32) ≤ I q by rw [lit, I_lt_f (by omega) (by omega)]; exact fun z => z), I_succ]
    rfl
  unfold fL_areAll_S9
  rw [if_neg (show ¬ (30 : Int32) ≤ I k by rw [lit, I_lt_f (by omega) (by omega)]; exact fun z => z), if_neg z10, mod5 (by omega), div5 (by omega), p0, bn1]
  -- open or not, shut or not
  have j47 : ∀ y, (y = 1 ∧ ct 6 k = I 1) ∨ (y = 0 ∧ ct 6 k = I 0) → fL_areAll_J47 rec cs cw ct cb cg 0 (I k) (I (k / 5)) y = rec (I 1, I (k + 1)) := by
    intro y hy
    unfold fL_areAll_J47
    rw [mod5 (by omega), p2, bn1]
    have j69 : ∀ z, (z = 1 ∧ ct 5 k ≠ I 0) ∨ (z = 0 ∧ ct 5 k = I 0) → fL_areAll_J69 rec cs cw ct cb cg 0 (I k) (I (k / 5)) y z = rec (I 1, I (k + 1)) := by
      intro z hz
      unfold fL_areAll_J69
      rw [mod5 (by omega), p1, bn1, inb_t hk (by omega), ck1, ck1, I_nat (by omega)]
      -- from the wire's mark on
      have j105 : ∀ w, (w = 1 ∧ cw 0 k ≠ nn) ∨ (w = 0 ∧ cw 0 k = nn) → fL_areAll_J105 rec cs cw ct cb cg 0 (I k) (I (k / 5)) y z (ct 7 k) w = rec (I 1, I (k + 1)) := by
        intro w hw
        have a173 : fL_areAll_J173 rec cs cw ct cb cg 0 (I k) (I (k / 5)) y (ct 7 k) w = rec (I 1, I (k + 1)) := by
          unfold fL_areAll_J173
          rw [fin _ rfl]
          rcases hw with ⟨rfl, w0⟩ | ⟨rfl, w0⟩
          · rw [if_neg (by decide)]
            rcases hy with ⟨rfl, y0⟩ | ⟨rfl, y0⟩
            · rw [if_neg (by decide)]
              rcases x3 w0 y0 with e | e
              · rw [if_pos (show ct 7 k = 1 from e)]
              · rw [if_neg (by rw [e]; decide), if_pos (show ct 7 k = 2 from e)]
            · rw [if_pos rfl]
          · rw [if_pos rfl]
        have a149 : fL_areAll_J149 rec cs cw ct cb cg 0 (I k) (I (k / 5)) y z (ct 7 k) w = rec (I 1, I (k + 1)) := by
          unfold fL_areAll_J149 fL_areAll_J170
          rw [inb_t hk (by omega), ck1, I_nat (by omega), a173]
          by_cases c : cg 0 k < 100
          · rw [if_pos c]
          · rw [if_neg c]
            have hh : cw 2 k ≠ nn := by
              rcases h.at hk with ⟨e, -⟩ | ⟨j, c', e1, e2, -⟩ | ⟨a, a1, e1, e2, -⟩
              · exact absurd (show cg 0 k < 100 by rw [e]; decide) c
              · exact absurd (show cg 0 k < 100 by rw [e2, lit, I_t (by omega) (by omega)]; trivial) c
              · rw [e2, ne_eq, I_nn (by omega)]; exact fun z => z
            rcases hz with ⟨rfl, z0⟩ | ⟨rfl, z0⟩
            · rw [if_neg (by decide)]
              rcases hy with ⟨rfl, y0⟩ | ⟨rfl, y0⟩
              · exact absurd (x4 y0).1 z0
              · rw [if_pos rfl]
            · rw [if_pos rfl]
              rcases hy with ⟨rfl, y0⟩ | ⟨rfl, y0⟩
              · rw [if_pos rfl]
              · have := x2 hh z0
                rw [y0, I10] at this
                exact absurd this id
        have a137 : fL_areAll_J137 rec cs cw ct cb cg 0 (I k) (I (k / 5)) y z (ct 7 k) w = rec (I 1, I (k + 1)) := by
          unfold fL_areAll_J137
          rw [inb_t hk (by omega), ck1, I_nat (by omega), a149]
          rcases bare_law h hk with ⟨b1, b2⟩ | ⟨b1, b2, b3⟩
          · rw [if_pos b1]
          · rw [if_neg b1]
            rcases hy with ⟨rfl, y0⟩ | ⟨rfl, y0⟩
            · rcases (x4 y0).2 with e | e
              · exact absurd b2 e
              · exact absurd b3 e
            · rw [if_pos rfl]
        have a127 : fL_areAll_J127 rec cs cw ct cb cg 0 (I k) (I (k / 5)) y z (ct 7 k) w = rec (I 1, I (k + 1)) := by
          unfold fL_areAll_J127
          rw [a137]
          rcases hz with ⟨rfl, z0⟩ | ⟨rfl, z0⟩
          · rw [if_neg (by decide), if_pos (show ct 7 k = 0 from x1 z0)]
          · rw [if_pos rfl]
        have a117 : fL_areAll_J117 rec cs cw ct cb cg 0 (I k) (I (k / 5)) y z (ct 7 k) w = rec (I 1, I (k + 1)) := by
          unfold fL_areAll_J117
          rw [a127]
          rcases hw with ⟨rfl, w0⟩ | ⟨rfl, w0⟩
          · rw [if_neg (by decide)]
          · rw [if_pos rfl, if_pos (show ct 7 k = 0 from r1 w0)]
        unfold fL_areAll_J105
        rw [a117]
        rcases hy with ⟨rfl, y0⟩ | ⟨rfl, y0⟩
        · rw [if_neg (by decide)]
          rcases hz with ⟨rfl, z0⟩ | ⟨rfl, z0⟩
          · exact absurd (x4 y0).1 z0
          · rw [if_pos rfl]
        · rw [if_pos rfl]
      rcases lw k hk with ⟨e, e2, e3⟩ | ⟨e, a, ha, e2, e3⟩ | ⟨e, e2, e3⟩
      · have hw0 : ∃ j, j < 30 ∧ cw 0 k = I j := by
          rcases rel_wire hr hk with z | ⟨j, c, h1, h2, -⟩
          · exact absurd z e
          · exact ⟨j, h1, h2⟩
        obtain ⟨j, hj, ej⟩ := hw0
        rw [e2, ej, if_neg (show ¬ I j < 0 by rw [zeroI, I_f (by omega) (by omega)]; exact fun z => z), if_neg (show ¬ (100 : Int32) ≤ I j by rw [lit, I_lt_f (by omega) (by omega)]; exact fun z => z)]
        exact j105 1 (Or.inl ⟨rfl, e⟩)
      · rw [e3, if_neg (show ¬ I (100 + a) < 0 by rw [zeroI, I_f (by omega) (by omega)]; exact fun z => z), if_pos (show (100 : Int32) ≤ I (100 + a) by rw [lit, I_lt_t (by omega) (by omega)]; trivial)]
        exact j105 0 (Or.inr ⟨rfl, e⟩)
      · rw [e3, if_pos (show nn < 0 by decide)]
        exact j105 0 (Or.inr ⟨rfl, e⟩)
    by_cases s5 : ct 5 k = I 0
    · rw [if_pos s5, if_neg (by decide)]
      exact j69 0 (Or.inr ⟨rfl, s5⟩)
    · rw [if_neg s5, if_pos (show I 1 = 1 from rfl)]
      exact j69 1 (Or.inl ⟨rfl, s5⟩)
  rcases x5 with o | o
  · rw [if_pos o, if_neg (by decide)]
    exact j47 0 (Or.inr ⟨rfl, o⟩)
  · rw [if_neg (show ¬ ct 6 k = I 0 by rw [o]; decide), if_pos (show I 1 = 1 from rfl)]
    exact j47 1 (Or.inl ⟨rfl, o⟩)

/-! ===== the law's look at the tables, and at what is held ===== -/
theorem holdsv (ct cb : St) {s : Nat} (hs : s < 6) : fX5_holds ct cb (I s) 0 = some (.inl (ct 1 s)) ∧ fX5_holds ct cb (I s) 1 = some (.inl (ct 2 s)) ∧ fX5_holds ct cb (I s) 2 = some (.inl (ct 3 s)) ∧ fX5_holds ct cb (I s) 3 = some (.inl (ct 4 s)) ∧ fX5_holds ct cb (I s) 4 = some (.inl (cb 2 s)) := by
  have n := needSwitch_t hs
  have i := inb_t hs (show 6 ≤ 2147483648 by omega)
  have v := I_nat (show s < 2147483648 by omega)
  refine ⟨?_, ?_, ?_, ?_, ?_⟩ <;> unfold fX5_holds
  · rw [n, bx1, if_pos rfl, i, ck1, v]
  · rw [n, bx1, if_neg (by decide), if_pos rfl, i, ck1, v]
  · rw [n, bx1, if_neg (by decide), if_neg (by decide), if_pos rfl, i, ck1, v]
  · rw [n, bx1, if_neg (by decide), if_neg (by decide), if_neg (by decide), if_pos rfl, i, ck1, v]
  · rw [n, bx1, if_neg (by decide), if_neg (by decide), if_neg (by decide), if_neg (by decide), if_pos rfl, i, ck1, v]
theorem tablev (cb : St) {s o : Nat} (hs : s < 6) (ho : o < 30) : fX5_table cb (I s) (I (1 + o / 10)) (I (o % 10)) = some (.inl (cb 0 (30 * s + o))) := by
  unfold fX5_table
  rw [needSwitch_t hs, bx1, needLane_t (show 1 ≤ 1 + o / 10 by omega) (by omega), bx1, needHouse_t (show o % 10 < 10 by omega), bx1]
  have e : fX2_portFor cb (I s) (I (1 + o / 10)) (I (o % 10)) = some (cb 0 (30 * s + o)) := by
    unfold fX2_portFor fX2_indexOf
    rw [bd1]
    have ei : I s * 30 + (I (1 + o / 10) - 1) * 10 + I (o % 10) = I (30 * s + o) := by
      show I s * I 30 + (I (1 + o / 10) - I 1) * I 10 + I (o % 10) = _
      rw [I_mul, I_sub (by omega), I_mul, I_add, I_add]
      congr 1
      omega
    rw [ei, inb_t (show 30 * s + o < 180 by omega) (by omega), ck1, I_nat (by omega)]
  rw [e, bd1]
theorem cnt_30 (f : Nat → Int32) (n : Nat) (hn : n ≤ 30) : cnt f n ≤ 30 := Nat.le_trans (cnt_le f n) hn
theorem rel_cnt {N : Nat} {cs cw ct cl cb mm : St} (h : Rel N cs cw ct cl cb mm) {s : Nat} (hs : s < 6) : cb 2 s = I (cnt (fun o => cb 0 (30 * s + o)) 30) ∧ cnt (fun o => cb 0 (30 * s + o)) 30 ≤ 8 := by
  obtain ⟨n, P, e, e2⟩ := h.2.2.2.2.2.2.2.2.2.2.2.2.2.2.2.2.2.2 s hs
  have ec := e.cnt
  rw [ec]
  exact ⟨e2, e.1⟩
theorem rel_tree {N : Nat} {cs cw ct cl cb mm : St} (h : Rel N cs cw ct cl cb mm) {s : Nat} (hs : s < 6) : isI 6 (ct 1 s) ∧ (∃ e c, e ≤ 7 ∧ c ≤ 100 * e ∧ ct 3 s = I e ∧ ct 2 s = I c) ∧ (ct 4 s = nn ∨ ∃ p, p < 5 ∧ ct 4 s = I p ∧ ct 1 s ≠ I s) := by
  obtain ⟨p1, ⟨e, c, p2, p3, p4, p5⟩, p6⟩ := h.2.2.2.2.2.2.1 s hs
  obtain ⟨c1, c2, c3, c4, c5⟩ := h.2.2.2.2.2.2.2.2.2.2.2.2.2.2.1 s hs
  rw [c1, c2, c3]
  refine ⟨p1, ⟨e, c, p2, p3, p4, p5⟩, ?_⟩
  rcases p6 with p6 | ⟨p, h1, h2, h3⟩
  · exact Or.inl (c4 p6)
  · exact Or.inr ⟨p, h1, c5 p h1 h2, h3⟩
theorem all_rows {N n : Nat} {cs cw ct cl cb cg : St} (h : LInv N n cs cw ct cl cb cg) {s : Nat} (hs : s < 6) (k242 : St × Int32 × Int32 → Option (Int32 × St)) : fL_areAll_L260 k242 cs cw ct cb cg 0 (I s) (I 1) 0 0 = fL_areAll_J349 k242 cs cw ct cb cg (I 1) 0 (I s) (I (cnt (fun o => cb 0 (30 * s + o)) 30)) := by
  obtain ⟨⟨mm, hr⟩, ⟨c1, c2, c3, c4⟩, lw, -⟩ := id h
  obtain ⟨u, h1, h2⟩ := loop_up (step := fun k a => fL_areAll_S260 k242 k cs cw ct cb cg 0 (I s) (a.1) (a.2.1) (a.2.2)) (fun k (u : Nat) => (I 1, I u, I k)) 30 (fun k u => u = cnt (fun o => cb 0 (30 * s + o)) k) (fun u => fL_areAll_J349 k242 cs cw ct cb cg (I 1) 0 (I s) (I u))
    (fun k u hk hu => by
      subst hu
      refine ⟨_, rfl, fun rec => ?_⟩
      show fL_areAll_S260 k242 rec cs cw ct cb cg 0 (I s) (I 1) (I (cnt (fun o => cb 0 (30 * s + o)) k)) (I k) = rec (I 1, I (cnt (fun o => cb 0 (30 * s + o)) k + (if cb 0 (30 * s + k) = nn then 0 else 1)), I (k + 1))
      have el : 1 + I k / 10 = I (1 + k / 10) := by
        show I 1 + I k / I 10 = _
        rw [I_div (by omega) (by omega), I_add]
      have em : I k - I k / 10 * 10 = I (k % 10) := by rw [show (10 : Int32) = I 10 from rfl, mod_I (by omega) (by omega)]
      unfold fL_areAll_S260
      rw [if_neg (show ¬ (30 : Int32) ≤ I k by rw [lit, I_lt_f (by omega) (by omega)]; exact fun z => z), if_neg z10, el, em, tablev cb hs hk, bn1]
      unfold fL_areAll_J304
      rcases c2 s hs k hk with e | ⟨p, hp, e, e2, e3⟩
      · rw [e, if_pos (show nn < 0 by decide), if_pos (show nn < 0 by decide), if_pos rfl, I_succ]
        show rec (I 1, I _ + I 0, _) = _
        rw [I_add]
      · have i0 : ¬ I p < 0 := by rw [zeroI, I_f (by omega) (by omega)]; exact fun z => z
        have sp : (5 * I s) + I p = I (5 * s + p) := by
          show I 5 * I s + I p = _
          rw [I_mul, I_add]
        have pv := port2b cs ct (show 5 * s + p < 30 by omega)
        rw [show (5 * s + p) / 5 = s by omega, show (5 * s + p) % 5 = p by omega, if_pos e3] at pv
        have nb : ¬ cg 0 (5 * s + p) < 0 := by
          rcases bare_law h (show 5 * s + p < 30 by omega) with ⟨b1, -⟩ | ⟨-, b2, b3⟩
          · exact Int32.not_lt.mpr b1
          · rcases e2 with e2 | e2
            · exact absurd b2 e2
            · exact absurd b3 e2
        rw [e, if_neg i0, if_neg i0, sp, inb_t (show 5 * s + p < 30 by omega) (by omega), ck1, I_nat (by omega), if_neg nb, pv, bn1, if_pos z00, if_neg (by rw [I_nn (by omega)]; exact fun z => z), I_succ, I_succ]
        rfl)
    (fun u hu rec => by
      show fL_areAll_S260 k242 rec cs cw ct cb cg 0 (I s) (I 1) (I u) (I 30) = _
      unfold fL_areAll_S260
      rw [if_pos (show (30 : Int32) ≤ I 30 by decide)])
    30 0 0 1000 (by omega) (by omega) rfl
  rw [h1] at h2
  exact h2
theorem wireC {N : Nat} {cs cw ct cl cb mm : St} (h : Rel N cs cw ct cl cb mm) : WireC cw := fun k hk => rel_wire h hk
theorem rankC {N : Nat} {cs cw ct cl cb mm : St} (h : Rel N cs cw ct cl cb mm) : RankC cw := fun j hj => rel_rank h hj
theorem wy_ext {cw ct c : St} (h : c 5 = ct 5) (s : Nat) : ∀ t u, wy cw c s t u = wy cw ct s t u := by
  intro t
  induction t with
  | zero => intro u; rfl
  | succ t ih =>
    intro u
    show rlx cw c (wy cw c s t) (t % 30) u = rlx cw ct (wy cw ct s t) (t % 30) u
    unfold rlx
    rw [jn_ext h, ih, ih]
theorem fnd_ext {cw ct c : St} (h : c 5 = ct 5) (s : Nat) : fnd cw c s = fnd cw ct s := by
  unfold fnd
  have e : wy cw c s 180 = wy cw ct s 180 := by funext u; exact wy_ext h s 180 u
  rw [e]
theorem all_switch {N n : Nat} {cs cw ct cl cb cg : St} (h : LInv N n cs cw ct cl cb cg) {s : Nat} (hs : s < 6) : ∃ f, ∀ k242 : St × Int32 × Int32 → Option (Int32 × St), fL_areAll_S242 k242 cs cw cb cg 0 ct (I 1) (I s) = k242 (pF ct 15 f, I 1, I (s + 1)) := by
  obtain ⟨⟨mm, hr⟩, ⟨c1, c2, c3, c4⟩, lw, lh, lk, -⟩ := id h
  obtain ⟨f, ef⟩ := found_c (ct := ct) (wireC hr) (rankC hr) hs
  refine ⟨f, fun k242 => ?_⟩
  have el : fL_found cs (pF ct 15 f) cg (I s) = some (I (fnd cw ct s)) := by
    rw [found_l (cs := cs) (ct := pF ct 15 f) (wireC hr) (rel_one hr) (rankC hr) lw lk hs, fnd_ext (pF_at ct 15 f 5) s]
  obtain ⟨v0, v1, v2, v3, v4⟩ := holdsv ct cb hs
  obtain ⟨n1, n2⟩ := rel_cnt hr hs
  obtain ⟨⟨r, r1, r2⟩, ⟨e, c, e1, e2, e3, e4⟩, rp⟩ := rel_tree hr hs
  have own := c3 s hs
  have fin : fL_areAll_J458 k242 cs cw ct cb cg 0 (I s) 1 = k242 (pF ct 15 f, I 1, I (s + 1)) := by
    unfold fL_areAll_J458
    rw [if_neg (by decide), ef, bn1, el, bd1, if_pos rfl, I_succ]
    rfl
  unfold fL_areAll_S242
  rw [if_neg (show ¬ (6 : Int32) ≤ I s by rw [lit, I_lt_f (by omega) (by omega)]; exact fun z => z), if_neg z10, all_rows h hs]
  unfold fL_areAll_J349
  rw [v0, bn1, if_neg z10, v4, bn1, n1, if_pos rfl, if_neg (show ¬ (9 : Int32) ≤ I _ by rw [lit, I_lt_f (by omega) (by omega)]; exact fun z => z), r2, if_neg (show ¬ I r < 0 by rw [zeroI, I_f (by omega) (by omega)]; exact fun z => z), if_neg (show ¬ (6 : Int32) ≤ I r by rw [lit, I_lt_f (by omega) (by omega)]; exact fun z => z), v2, bn1, e3, if_neg (show ¬ (8 : Int32) ≤ I e by rw [lit, I_lt_f (by omega) (by omega)]; exact fun z => z), v1, bn1, e4, if_neg (show ¬ I c < 0 by rw [zeroI, I_f (by omega) (by omega)]; exact fun z => z), v3, bn1, fin]
  rcases rp with rp | ⟨p, hp, rp, -⟩
  · obtain ⟨o1, o2, o3⟩ := own rp
    rw [o1] at r2
    rw [o2] at e4
    rw [o3] at e3
    rw [rp, if_neg (show ¬ (0 : Int32) ≤ nn by decide), if_pos r2.symm, bn1, if_pos (show I c = 0 from e4.symm), bn1, if_pos (show I e = 0 from e3.symm)]
  · rw [rp, if_pos (show (0 : Int32) ≤ I p by rw [zeroI, I_lt_t (by omega) (by omega)]; trivial)]
theorem LInv.way {N n : Nat} {cs cw ct cl cb cg : St} (h : LInv N n cs cw ct cl cb cg) (f : Nat → Int32) : LInv N n cs cw (pF ct 15 f) cl cb cg := by
  obtain ⟨⟨mm, hr⟩, h2⟩ := h
  exact ⟨⟨mm, hr⟩, h2⟩
theorem all_got {N n : Nat} {cs cw ct cl cb cg : St} (h : LInv N n cs cw ct cl cb cg) : fL_areAll_J497 cs cw ct cb cg (I 1) 0 = some (I 1, ct) := by
  obtain ⟨-, -, -, -, -, -, -, -, -, g5, -⟩ := id h
  obtain ⟨u, h1, h2⟩ := loop_up (step := fun k a => fL_areAll_S500 k cs cw ct cb cg (I 1) (a.1) (a.2)) (fun k (u : Int32) => (u, I k)) 10 (fun k u => u = sum7 (cs 7) k) (fun u => fL_areAll_J525 cs cw ct cb cg (I 1) u)
    (fun k u hk hu => by
      subst hu
      refine ⟨_, rfl, fun rec => ?_⟩
      show fL_areAll_S500 rec cs cw ct cb cg (I 1) (sum7 (cs 7) k) (I k) = rec (sum7 (cs 7) k + cs 7 k, I (k + 1))
      unfold fL_areAll_S500 fX5_got
      rw [if_neg (show ¬ (10 : Int32) ≤ I k by rw [lit, I_lt_f (by omega) (by omega)]; exact fun z => z), needHouse_t hk, bx1, if_pos rfl, inb_t hk (by omega), ck1, I_nat (by omega), bn1, I_succ])
    (fun u hu rec => by
      show fL_areAll_S500 rec cs cw ct cb cg (I 1) u (I 10) = _
      unfold fL_areAll_S500
      rw [if_pos (show (10 : Int32) ≤ I 10 by decide)])
    10 0 0 1000 (by omega) (by omega) rfl
  have e : fL_areAll_J497 cs cw ct cb cg (I 1) 0 = fL_areAll_J525 cs cw ct cb cg (I 1) u := h2
  rw [e, h1]
  unfold fL_areAll_J525
  rw [if_neg z10, show inb 4 6 = true by decide, ck1, show (4 : Int32).toNatClampNeg = 4 by decide, g5]
  exact if_pos rfl
theorem all_eval {N n : Nat} {cs cw ct cl cb cg : St} (h : LInv N n cs cw ct cl cb cg) (hn : n ≤ 90) : ∃ f, fL_areAll cs cw ct cb cg = some (I 1, pF ct 15 f) := by
  obtain ⟨f, h1, h2⟩ := loop_up (step := fun k a => fL_areAll_S242 k cs cw cb cg 0 (a.1) (a.2.1) (a.2.2)) (fun k (f : Nat → Int32) => (pF ct 15 f, I 1, I k)) 6 (fun _ _ => True) (fun f => fL_areAll_J497 cs cw (pF ct 15 f) cb cg (I 1) 0)
    (fun k f hk _ => by
      obtain ⟨g, hg⟩ := all_switch (h.way f) hk
      refine ⟨g, trivial, fun rec => ?_⟩
      show fL_areAll_S242 rec cs cw cb cg 0 (pF ct 15 f) (I 1) (I k) = _
      rw [hg, pF_pF])
    (fun f _ rec => by
      show fL_areAll_S242 rec cs cw cb cg 0 (pF ct 15 f) (I 1) (I 6) = _
      unfold fL_areAll_S242
      rw [if_pos (show (6 : Int32) ≤ I 6 by decide)])
    6 0 (ct 15) 8 (by omega) (by omega) trivial
  obtain ⟨u, g1, g2⟩ := loop_up (step := fun k a => fL_areAll_S9 k cs cw ct cb cg 0 (a.1) (a.2)) (fun k (_ : Unit) => (I 1, I k)) 30 (fun _ _ => True) (fun _ => fL_areAll_J239 cs cw ct cb cg (I 1) 0)
    (fun k u hk _ => ⟨(), trivial, fun rec => all_port h hn hk rec⟩)
    (fun u _ rec => by
      show fL_areAll_S9 rec cs cw ct cb cg 0 (I 1) (I 30) = _
      unfold fL_areAll_S9
      rw [if_pos (show (30 : Int32) ≤ I 30 by decide)])
    30 0 () 1000 (by omega) (by omega) trivial
  refine ⟨f, ?_⟩
  have e1 : fL_areAll cs cw ct cb cg = fL_areAll_J239 cs cw ct cb cg (I 1) 0 := g2
  rw [e1]
  unfold fL_areAll_J239 fL_areAll_L242
  rw [pF_self] at h2
  exact h2.trans (all_got (h.way f))

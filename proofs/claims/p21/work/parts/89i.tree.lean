/-! ===== the law's look at rest: ports ===== -/
theorem tree_port {N n : Nat} {cs cw ct cl cb cg : St} (h : LInv N n cs cw ct cl cb cg) {R C H : Nat → Nat} (hf : RestF cw ct R C H) {k : Nat} (hk30 : k < 30) (x6 : Int32) (rec : Int32 × Int32 × Int32 → Option Int32) : fL_isTree_S230 rec cs ct cb cg x6 (I 1) (I (cnt (opw cw ct) k)) (I k) = rec (I 1, I (cnt (opw cw ct) (k + 1)), I (k + 1)) := by
  obtain ⟨⟨mm, hr⟩, ⟨c1, -⟩, lw, lh, lk, -⟩ := id h
  have hw := wireC hr
  have hk := rankC hr
  have c30 := cnt_30 (opw cw ct) k (by omega)
  show fL_isTree_S230 rec cs ct cb cg x6 (I 1) (I (cnt (opw cw ct) k)) (I k) = rec (I 1, I (cnt (opw cw ct) k + (if opw cw ct k = nn then 0 else 1)), I (k + 1))
  obtain ⟨u, eu⟩ : ∃ u, u = cnt (opw cw ct) k := ⟨_, rfl⟩
  rw [← eu] at c30 ⊢
  have no : cw 0 k = nn → opw cw ct k = nn := by
    intro e
    unfold opw
    rw [if_neg (fun z => z.1 e)]
  have none : cw 0 k = nn → fL_isTree_J262 rec cs ct cb cg (I u) x6 (I k) = rec (I 1, I (u + (if opw cw ct k = nn then 0 else 1)), I (k + 1)) := by
    intro e
    unfold fL_isTree_J262 fL_isTree_J263 fL_isTree_J323 fL_isTree_J324
    rw [if_pos rfl, if_pos rfl, I_succ, if_pos (no e)]
    show rec (I 1, I u + I 0, _) = _
    rw [I_add]
  unfold fL_isTree_S230
  rw [if_neg (show ¬ (30 : Int32) ≤ I k by rw [lit, I_lt_f (by omega) (by omega)]; exact fun z => z), if_neg z10, inb_t hk30 (by omega), ck1, ck1, I_nat (by omega)]
  rcases lw k hk30 with ⟨e, -, -⟩ | ⟨e, a, ha, e2, e3⟩ | ⟨e, e2, e3⟩
  · obtain ⟨m1, m2, m3⟩ := law_at h hk30 e
    obtain ⟨w1, w2, w3, w4, w5, w6, w7, w8, w9⟩ := wire_data hw hk30 e
    have pb : ¬ I (pe cw k) < 0 := by rw [zeroI, I_f (by omega) (by omega)]; exact fun z => z
    have pc : ¬ (100 : Int32) ≤ I (pe cw k) := by rw [lit, I_lt_f (by omega) (by omega)]; exact fun z => z
    rw [m2, if_neg pb, if_neg pc]
    have q0 := port0v cs ct hk30
    have q1 := port1v cs ct hk30
    have r0 := port0v cs ct w1
    have r1 := port1v cs ct w1
    have pv := pass_eval (cs := cs) (ct := ct) (cg := cg) hw (rel_one hr) lw hk30
    have j324 : ∀ (y0 : Nat), fL_isTree_J324 rec cs ct cb cg x6 (I k) 1 (I y0) (I u) = rec (I 1, I (u + y0), I (k + 1)) := by
      intro y0
      unfold fL_isTree_J324
      rw [if_neg (by decide), pv, I_add, I_succ]
      by_cases j : jn cw ct k = true
      · rw [if_pos j, bd1, if_neg z10, mod5 (by omega), div5 (by omega), q1, bn1]
        by_cases d : ct 7 k = 2
        · rw [if_pos d]; rfl
        · rw [if_neg d, inb_t hk30 (by omega), ck1, ck1, I_nat (by omega), m2, mod5 (by omega), div5 (by omega), r1, bn1]
          have d2 : ct 7 (pe cw k) = 2 := by
            rcases ends hw hk hf hk30 j with z | z | ⟨-, -, z | z⟩
            · exact z.2.2.2
            · exact absurd z.2.2.1 d
            · exact absurd z.1 d
            · exact z.2
          rw [if_pos d2]; rfl
      · rw [if_neg j, bd1, if_pos z00]; rfl
    have j323 : opw cw ct k = nn → fL_isTree_J323 rec cs ct cb cg x6 (I k) 1 (I u) = rec (I 1, I (u + (if opw cw ct k = nn then 0 else 1)), I (k + 1)) := by
      intro z
      unfold fL_isTree_J323
      rw [if_pos z]
      exact j324 0
    unfold fL_isTree_J263
    rw [if_neg (by decide), mod5 (by omega), div5 (by omega), q0, bn1, inb_t hk30 (by omega), ck1, ck1, ck1, I_nat (by omega), m2, mod5 (by omega), div5 (by omega), r0]
    by_cases o1 : ct 6 k = I 0
    · rw [if_pos o1, if_neg (by decide)]
      refine j323 (Classical.byContradiction fun z => ?_)
      have := ((opw_ne cw ct k).mp z).2.1
      rw [o1, I10] at this; exact this
    · have o1' : ct 6 k = I 1 := by
        rcases (c1 k hk30).2.2.2.2 with z | z
        · exact absurd z o1
        · exact z
      rw [if_neg o1, if_pos (show I 1 = 1 from rfl), bn1]
      by_cases o2 : ct 6 (pe cw k) = I 0
      · rw [if_pos o2, if_neg (by decide)]
        refine j323 (Classical.byContradiction fun z => ?_)
        have := ((opw_ne cw ct k).mp z).2.2.1
        rw [o2, I10] at this; exact this
      · have o2' : ct 6 (pe cw k) = I 1 := by
          rcases (c1 _ w1).2.2.2.2 with z | z
          · exact absurd z o2
          · exact z
        rw [if_neg o2, if_pos (show I 1 = 1 from rfl)]
        by_cases c : pe cw k ≤ k
        · rw [if_pos (by rw [I_le (by omega) (by omega)]; exact c)]
          refine j323 (Classical.byContradiction fun z => ?_)
          have := ((opw_ne cw ct k).mp z).2.2.2
          omega
        · rw [if_neg (by rw [I_le (by omega) (by omega)]; exact c)]
          have z : opw cw ct k ≠ nn := (opw_ne cw ct k).mpr ⟨e, o1', o2', by omega⟩
          rw [if_neg z]
          exact j324 1
  · rw [e3, if_neg (show ¬ I (100 + a) < 0 by rw [zeroI, I_f (by omega) (by omega)]; exact fun z => z), if_pos (show (100 : Int32) ≤ I (100 + a) by rw [lit, I_lt_t (by omega) (by omega)]; trivial)]
    exact none e
  · rw [e3, if_pos (show nn < 0 by decide)]
    exact none e
theorem tree_eval {N n : Nat} {cs cw ct cl cb cg : St} (h : LInv N n cs cw ct cl cb cg) {R C H : Nat → Nat} (hf : RestF cw ct R C H) : fL_isTree cs ct cb cg = some (I 1) := by
  obtain ⟨⟨mm, hr⟩, ⟨c1, -⟩, -⟩ := id h
  have hw := wireC hr
  have hk := rankC hr
  obtain ⟨u, h1, h2⟩ := loop_up (step := fun k a => fL_isTree_S12 k cs ct cb cg 0 (a.1) (a.2.1) (a.2.2)) (fun k (u : Nat) => (I 1, I u, I k)) 6 (fun k u => u = rts R k) (fun u => fL_isTree_J227 cs ct cb cg (I 1) 0 (I u))
    (fun k u hk6 hu => by
      subst hu
      exact ⟨_, rfl, fun rec => tree_switch h hf hk6 rec⟩)
    (fun u hu rec => by
      show fL_isTree_S12 rec cs ct cb cg 0 (I 1) (I u) (I 6) = _
      unfold fL_isTree_S12
      rw [if_pos (show (6 : Int32) ≤ I 6 by decide)])
    6 0 0 8 (by omega) (by omega) rfl
  obtain ⟨w, g1, g2⟩ := loop_up (step := fun k a => fL_isTree_S230 k cs ct cb cg (I u) (a.1) (a.2.1) (a.2.2)) (fun k (w : Nat) => (I 1, I w, I k)) 30 (fun k w => w = cnt (opw cw ct) k) (fun w => fL_isTree_J393 cs ct cb cg (I 1) (I w) (I u))
    (fun k w hk30 hw0 => by
      subst hw0
      exact ⟨_, rfl, fun rec => tree_port h hf hk30 (I u) rec⟩)
    (fun w hw0 rec => by
      show fL_isTree_S230 rec cs ct cb cg (I u) (I 1) (I w) (I 30) = _
      unfold fL_isTree_S230
      rw [if_pos (show (30 : Int32) ≤ I 30 by decide)])
    30 0 0 1000 (by omega) (by omega) rfl
  have e1 : fL_isTree cs ct cb cg = fL_isTree_J227 cs ct cb cg (I 1) 0 (I u) := h2
  have e2 : fL_isTree_J227 cs ct cb cg (I 1) 0 (I u) = fL_isTree_J393 cs ct cb cg (I 1) (I w) (I u) := g2
  rw [e1, e2]
  have s1 := rts_cnt hr hf 6 (Nat.le_refl _)
  have s2 := wires_open hw hk hf c1
  have ew : w = 6 - u := by rw [g1, h1, s2]; omega
  have lu : u ≤ 6 := by rw [h1]; exact rts_le R 6
  unfold fL_isTree_J393
  rw [if_neg z10, if_pos (show I w = 6 - I u by rw [lit, I_sub lu, ew])]
  rfl

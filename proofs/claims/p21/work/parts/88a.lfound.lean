/-! ===== what the law finds ===== -/
theorem way_l {cs cw ct cg : St} (h : WireC cw) (ho : OneW cw) (hw : LawW cw cg) {s t : Nat} (ht : t < 180) {f : Nat → Int32} (hf : WayL (wy cw ct s t) f) (x4 : Int32) : ∃ f', WayL (wy cw ct s (t + 1)) f' ∧ ∀ (cf : St) rec, fL_found_S43 rec cs ct cg x4 (pF cf 0 f) (I t) = rec (pF cf 0 f', I (t + 1)) := by
  obtain ⟨k, ek⟩ : ∃ k, k = t % 30 := ⟨_, rfl⟩
  have hk : k < 30 := by omega
  have hq : ∀ u, wy cw ct s (t + 1) u = rlx cw ct (wy cw ct s t) k u := by intro u; show rlx cw ct (wy cw ct s t) (t % 30) u = _; rw [ek]
  have f0 : ∀ cf : St, pF cf 0 f 0 = f := fun cf => by rw [pF_at, if_pos rfl]
  have e30 : I t - I t / 30 * 30 = I k := by rw [show (30 : Int32) = I 30 from rfl, mod_I (by omega) (by omega), ek]
  have i180 : ¬ (180 : Int32) ≤ I t := by rw [lit, I_lt_f (by omega) (by omega)]; exact fun z => z
  have pv := pass_eval (cs := cs) (ct := ct) (cg := cg) h ho hw hk
  by_cases j : jn cw ct k = true
  · have jj := Eq.mp (jn_iff _ _ _) j
    obtain ⟨w1, w2, w3, w4, w5, -⟩ := wire_data h hk jj.1
    have le := wy_far cw ct h s (show t ≤ 180 by omega)
    have c0 : cg 0 k = I (pe cw k) ∧ cg 1 k = I (cst cw k) := by
      rcases hw k hk with ⟨e, e2, e3⟩ | ⟨e, -⟩ | ⟨e, -⟩
      · exact ⟨by rw [e2, w2], by rw [e3, w5]⟩
      · exact absurd e jj.1
      · exact absurd e jj.1
    have u1 := hf (k / 5) (by omega)
    have u2 := hf (pe cw k / 5) (by omega)
    have b1 := le (k / 5)
    have b2 := le (pe cw k / 5)
    have add : I (wy cw ct s t (k / 5)) + I (cst cw k) = I (wy cw ct s t (k / 5) + cst cw k) := I_add _ _
    have go : ∀ v, (wy cw ct s t (pe cw k / 5) ≤ wy cw ct s t (k / 5) + cst cw k → v = wy cw ct s t (pe cw k / 5)) → (¬ wy cw ct s t (pe cw k / 5) ≤ wy cw ct s t (k / 5) + cst cw k → v = wy cw ct s t (k / 5) + cst cw k) → ∀ (cf : St) rec, fL_found_S43 rec cs ct cg x4 (pF cf 0 f) (I t) = rec (pF cf 0 (upd f (pe cw k / 5) (I v)), I (t + 1)) := by
      intro v v1 v2 cf rec
      unfold fL_found_S43
      rw [if_neg i180, e30, pv, if_pos j, bd1, if_neg z10, div5 (by omega), inb_t (show k / 5 < 6 by omega) (by omega), inb_t hk (by omega), ck1, ck1, ck1, ck1, I_nat (show k < 2147483648 by omega), c0.1, c0.2, div5 (by omega), inb_t (show pe cw k / 5 < 6 by omega) (by omega), ck1, I_nat (show pe cw k / 5 < 2147483648 by omega), I_nat (show k / 5 < 2147483648 by omega), f0, u1, u2, add]
      have fin : ∀ y, fL_found_J118 rec cs ct cg (pF cf 0 f) x4 (I t) (I y) (I (pe cw k / 5)) = rec (pF cf 0 (upd f (pe cw k / 5) (I y)), I (t + 1)) := by
        intro y
        unfold fL_found_J118
        rw [inb_t (show pe cw k / 5 < 6 by omega) (by omega), ck1, aS_pF, I_nat (by omega), I_succ]
      by_cases c : wy cw ct s t (pe cw k / 5) ≤ wy cw ct s t (k / 5) + cst cw k
      · rw [if_pos (by rw [I_le (by omega) (by omega)]; exact c), ck1, ck1, fin, v1 c]
      · rw [if_neg (by rw [I_le (by omega) (by omega)]; exact c), fin, v2 c]
    refine ⟨_, fun u hu => ?_, go (if wy cw ct s t (pe cw k / 5) ≤ wy cw ct s t (k / 5) + cst cw k then wy cw ct s t (pe cw k / 5) else wy cw ct s t (k / 5) + cst cw k) (fun c => by rw [if_pos c]) (fun c => by rw [if_neg c])⟩
    rw [upd_at, hq]
    unfold rlx
    by_cases v : u = pe cw k / 5
    · subst v
      rw [if_pos rfl]
      by_cases c : wy cw ct s t (pe cw k / 5) ≤ wy cw ct s t (k / 5) + cst cw k
      · rw [if_pos c, if_neg (fun z => by have := z.2.2; omega)]
      · rw [if_neg c, if_pos ⟨j, rfl, by omega⟩]
    · rw [if_neg v, if_neg (fun z => v z.2.1)]
      exact hf u hu
  · refine ⟨f, fun u hu => ?_, fun cf rec => ?_⟩
    · rw [hq]
      unfold rlx
      rw [if_neg (fun z => j z.1)]
      exact hf u hu
    · unfold fL_found_S43
      rw [if_neg i180, e30, pv, if_neg j, bd1, if_pos z00, I_succ]
theorem better_l {cw cg : St} (h : RankC cw) (hk : LawK cw cg) {a b : Nat} (ha : a < 6) (hb : b < 6) : fL_isBetter cg (I a) (I b) = some (if nmq cw a < nmq cw b then I 1 else I 0) := by
  obtain ⟨ra, h1, e1⟩ := h a ha
  obtain ⟨rb, h2, e2⟩ := h b hb
  have na : nmq cw a = ra * 6 + a := by unfold nmq; rw [e1, I_nat (by omega)]
  have nb : nmq cw b = rb * 6 + b := by unfold nmq; rw [e2, I_nat (by omega)]
  rw [na, nb]
  unfold fL_isBetter
  rw [inb_t ha (by omega), inb_t hb (by omega), ck1, ck1, ck1, ck1, I_nat (by omega), I_nat (by omega), hk a ha, hk b hb, e1, e2]
  by_cases c : ra < rb
  · rw [if_pos (by rw [I_lt (by omega) (by omega)]; exact c), if_pos (by omega)]; rfl
  · rw [if_neg (by rw [I_lt (by omega) (by omega)]; exact c)]
    by_cases d : ra = rb
    · subst d
      rw [if_pos rfl]
      by_cases e : b ≤ a
      · rw [if_pos (by rw [I_le (by omega) (by omega)]; exact e), if_neg (by omega)]; rfl
      · rw [if_neg (by rw [I_le (by omega) (by omega)]; exact e), if_pos (by omega)]; rfl
    · rw [if_neg (by rw [I_inj (by omega) (by omega)]; exact d), if_neg (by omega)]; rfl
theorem choose_l {cs cw ct cg : St} (h : WireC cw) (hr : RankC cw) (hk : LawK cw cg) {s : Nat} (hs : s < 6) {cf : St} (hf : WayL (wy cw ct s 180) (cf 0)) (h0 : wy cw ct s 180 s < 100000) : fL_found_L132 cs ct cg cf (I s) (I 0) = some (I (fnd cw ct s)) := by
  obtain ⟨f', h1, h2⟩ := loop_up (step := fun k a => fL_found_S132 k cs ct cg cf (a.1) (a.2)) (fun k (b : Nat) => (I b, I k)) 6 (fun k b => b = bst cw (wy cw ct s 180) s k) (fun b => some (I (1000 * b + wy cw ct s 180 b)))
    (fun k b hk6 hb => by
      subst hb
      have bl := bst_lt cw (wy cw ct s 180) hs k (by omega)
      have wl := wy_far cw ct h s (Nat.le_refl 180) k
      refine ⟨bst cw (wy cw ct s 180) s (k + 1), rfl, fun rec => ?_⟩
      show fL_found_S132 rec cs ct cg cf (I (bst cw (wy cw ct s 180) s k)) (I k) = rec (I (if wy cw ct s 180 k < 100000 ∧ nmq cw k < nmq cw (bst cw (wy cw ct s 180) s k) then k else bst cw (wy cw ct s 180) s k), I (k + 1))
      unfold fL_found_S132
      rw [if_neg (show ¬ (6 : Int32) ≤ I k by rw [lit, I_lt_f (by omega) (by omega)]; exact fun z => z), inb_t hk6 (by omega), ck1, I_nat (by omega), hf k hk6]
      by_cases x : wy cw ct s 180 k = 100000
      · rw [if_pos (show (100000 : Int32) ≤ I _ by rw [lit, I_lt_t (by omega) (by omega)]; trivial), if_neg (by omega), I_succ]
      · rw [if_neg (show ¬ (100000 : Int32) ≤ I _ by rw [lit, I_lt_f (by omega) (by omega)]; exact fun z => z), better_l hr hk hk6 bl, bd1]
        by_cases c : nmq cw k < nmq cw (bst cw (wy cw ct s 180) s k)
        · rw [if_pos c, if_neg z10, if_pos ⟨by omega, c⟩, I_succ]
        · rw [if_neg c, if_pos z00, if_neg (fun z => c z.2), I_succ])
    (fun b hb rec => by
      have bl : b < 6 := by rw [hb]; exact bst_lt cw _ hs 6 (by omega)
      show fL_found_S132 rec cs ct cg cf (I b) (I 6) = _
      unfold fL_found_S132 fL_found_J175
      rw [if_pos (show (6 : Int32) ≤ I 6 by decide), inb_t bl (by omega), ck1, I_nat (by omega), hf b bl]
      show some (I 1000 * I b + I _) = _
      rw [I_mul, I_add])
    6 0 s 1000 (by omega) (by omega) rfl
  rw [h1] at h2
  exact h2
theorem found_l {cs cw ct cg : St} (h : WireC cw) (ho : OneW cw) (hr : RankC cw) (hw : LawW cw cg) (hk : LawK cw cg) {s : Nat} (hs : s < 6) : fL_found cs ct cg (I s) = some (I (fnd cw ct s)) := by
  obtain ⟨f, h1, h2⟩ := loop_up (step := fun k a => fL_found_S9 k cs ct cg (I s) (a.1) (a.2)) (fun k (f : Nat → Int32) => (pF st0 0 f, I k)) 6 (fun r f => ∀ u, u < r → f u = if u = s then I 0 else I 100000) (fun f => fL_found_J40 cs ct cg (pF st0 0 f) (I s))
    (fun r f hr hf => by
      refine ⟨upd f r (if r = s then I 0 else I 100000), fun u hu => ?_, fun rec => ?_⟩
      · rw [upd_at]
        by_cases e : u = r
        · rw [if_pos e, e]
        · rw [if_neg e]; exact hf u (by omega)
      · show fL_found_S9 rec cs ct cg (I s) (pF st0 0 f) (I r) = _
        unfold fL_found_S9 fL_found_J33
        rw [if_neg (show ¬ (6 : Int32) ≤ I r by rw [lit, I_lt_f (by omega) (by omega)]; exact fun z => z)]
        by_cases e : r = s
        · subst e
          rw [if_pos rfl, inb_t hr (by omega), ck1, if_pos rfl, aS_pF, I_nat (by omega), I_succ]
          rfl
        · rw [if_neg (by rw [I_inj (by omega) (by omega)]; exact e), inb_t hr (by omega), ck1, if_neg e, aS_pF, I_nat (by omega), I_succ]
          rfl)
    (fun f hf rec => by
      show fL_found_S9 rec cs ct cg (I s) (pF st0 0 f) (I 6) = _
      unfold fL_found_S9
      rw [if_pos (show (6 : Int32) ≤ I 6 by decide)])
    6 0 (st0 0) 1000 (by omega) (by omega) (fun u hu => by omega)
  have h0 : WayL (wy cw ct s 0) f := by
    intro u hu
    rw [h1 u hu]
    show _ = I (if u = s then 0 else 100000)
    by_cases e : u = s
    · rw [if_pos e, if_pos e]
    · rw [if_neg e, if_neg e]
  obtain ⟨g, g1, g2⟩ := loop_up (step := fun k a => fL_found_S43 k cs ct cg (I s) (a.1) (a.2)) (fun k (f : Nat → Int32) => (pF st0 0 f, I k)) 180 (fun t f => WayL (wy cw ct s t) f) (fun f => fL_found_J125 cs ct cg (pF st0 0 f) (I s))
    (fun t f ht hf => by
      obtain ⟨f', y1, y2⟩ := way_l (cs := cs) (cg := cg) h ho hw ht hf (I s)
      exact ⟨f', y1, fun rec => y2 st0 rec⟩)
    (fun f hf rec => by
      show fL_found_S43 rec cs ct cg (I s) (pF st0 0 f) (I 180) = _
      unfold fL_found_S43
      rw [if_pos (show (180 : Int32) ≤ I 180 by decide)])
    180 0 f 1000 (by omega) (by omega) h0
  have e1 : fL_found cs ct cg (I s) = fL_found_J40 cs ct cg (pF st0 0 f) (I s) := by
    rw [← h2]
    show fL_found_L9 cs ct cg (I s) st0 0 = _
    unfold fL_found_L9
    rw [pF_self]
    rfl
  rw [e1]
  refine Eq.trans g2 ?_
  unfold fL_found_J125
  exact choose_l h hr hk hs (by rw [pF_at, if_pos rfl]; exact g1) (by rw [wy_self cw ct h s 180]; omega)

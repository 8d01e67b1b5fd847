/-! ===== the law sends a frame, and walks ===== -/
theorem p_walk (cw ct cl cb : St) {f t : Nat} (hf : f < 10) (ht : t < 10) : Pc (fX5_walk cw ct cl cb (I f) (I t)) (fun r => r = .inr 2 ∨ r = .inr 3 ∨ r = .inl nn ∨ ∃ m, m ≤ 12 ∧ r = .inl (I m)) := by
  unfold fX5_walk
  rw [needHouse_t hf, needHouse_t ht, bx1, bx1]
  refine pc_if (fun _ => pc_some (Or.inl rfl)) (fun _ => pc_ck fun _ => pc_if (fun _ => pc_some (Or.inr (Or.inl rfl))) (fun _ => pc_ck fun _ => pc_if (fun _ => pc_some (Or.inr (Or.inl rfl))) (fun _ => pc_ck fun _ => ?_)))
  unfold fX5_walk_L75
  refine pc_loop (fun a => ∃ m, m ≤ 13 ∧ a.2.2 = I m) (fun rec hr a ha => ?_) _ _ ⟨1, by omega, rfl⟩
  obtain ⟨x, y, z⟩ := a
  obtain ⟨m, hm, e⟩ := ha
  have e : z = I m := e
  subst e
  unfold fX5_walk_S75
  refine pc_if (fun _ => pc_some (Or.inr (Or.inr (Or.inl rfl)))) (fun g => ?_)
  have hm12 : m ≤ 12 := by
    dsimp only at g
    rw [lit, I_lt (by omega) (by omega)] at g
    omega
  have j110 : ∀ q w, Pc (fX5_walk_J110 rec cw ct cl cb (I t) (I m) q w) (fun r => r = .inr 2 ∨ r = .inr 3 ∨ r = .inl nn ∨ ∃ m, m ≤ 12 ∧ r = .inl (I m)) := by
    intro q w
    unfold fX5_walk_J110
    refine pc_if (fun _ => pc_some (Or.inr (Or.inr (Or.inl rfl)))) (fun _ => pc_ck fun _ => pc_if (fun _ => ?_) (fun _ => pc_bd pc_any fun u _ => pc_ck fun _ => hr _ ⟨m + 1, by omega, I_add m 1⟩))
    unfold fX5_walk_J134
    exact pc_ck fun _ => pc_if (fun _ => pc_some (Or.inr (Or.inr (Or.inr ⟨m, hm12, rfl⟩)))) (fun _ => pc_some (Or.inr (Or.inr (Or.inl rfl))))
  exact pc_bd pc_any fun q _ => pc_if (fun _ => j110 _ _) (fun _ => pc_bd pc_any fun u _ => j110 _ _)
theorem send_eval (cs cw ct cl cb cp : St) {f t g s : Nat} (hf : f < 10) (ht : t < 12) (hg : g < 5) (hs : s < 4) :
    (t = 11 → fX5_send cs cw ct cl cb cp (I f) (I t) (I g) (I s) = some (.inr 1)) ∧
    (t < 11 → (f = t ∨ g = 4 ∨ (g = 0 ∧ 0 < s)) → fX5_send cs cw ct cl cb cp (I f) (I t) (I g) (I s) = some (.inr 2)) ∧
    (t < 11 → f ≠ t → g < 4 → (g = 0 → s = 0) → fX5_send cs cw ct cl cb cp (I f) (I t) (I g) (I s) = fX5_send_J51 cs cw ct cl cb cp (I f) (I t) (I g) (I s)) := by
  have n4 : fX5_needWithin (I s) (I 0) (I 3) = some (.inl ()) := needWithin_t (by omega) (inD_I (by omega) hs)
  have j14 : t < 11 → fX5_send cs cw ct cl cb cp (I f) (I t) (I g) (I s) = fX5_send_J14 cs cw ct cl cb cp (I f) (I t) (I g) (I s) := by
    intro h
    unfold fX5_send
    rw [needHouse_t hf, bx1]
    by_cases e : t = 10
    · subst e; rw [if_pos (show I 10 = 10 from rfl)]
    · rw [if_neg (by rw [lit, I_inj (by omega) (by omega)]; exact e), needHouse_t (show t < 10 by omega), bx1]
  refine ⟨fun e => ?_, fun h hb => ?_, fun h h1 h2 h3 => ?_⟩
  · subst e
    have n : fX5_needHouse (I 11) = some (.inr 1) := needHouse_f (by rintro ⟨w, w1, w2, w3⟩; rw [I_inj (by omega) (by omega)] at w3; omega)
    unfold fX5_send
    rw [needHouse_t hf, bx1, if_neg (by decide), n]
    rfl
  · rw [j14 h]
    unfold fX5_send_J14
    by_cases g4 : g = 4
    · have n3 : fX5_needWithin (I g) (I 0) (I 3) = some (.inr 2) := needWithin_f (by omega) (by omega) (by rintro ⟨w, w1, w2, w3⟩; rw [I_inj (by omega) (by omega)] at w3; omega)
      rw [show (0 : Int32) = I 0 from rfl, show (3 : Int32) = I 3 from rfl, n3]
      rfl
    · have n3 : fX5_needWithin (I g) (I 0) (I 3) = some (.inl ()) := needWithin_t (by omega) (inD_I (by omega) (by omega))
      rw [show (0 : Int32) = I 0 from rfl, show (3 : Int32) = I 3 from rfl, n3, n4, bx1, bx1]
      by_cases e : f = t
      · subst e; rw [if_pos rfl]
      · rw [if_neg (by rw [I_inj (by omega) (by omega)]; exact e)]
        have g0 : g = 0 ∧ 0 < s := by omega
        obtain ⟨rfl, g0⟩ := g0
        rw [if_pos rfl, if_neg (by rw [I_inj (by omega) (by omega)]; omega)]
  · rw [j14 h]
    unfold fX5_send_J14
    have n3 : fX5_needWithin (I g) (I 0) (I 3) = some (.inl ()) := needWithin_t (by omega) (inD_I (by omega) (by omega))
    rw [show (0 : Int32) = I 0 from rfl, show (3 : Int32) = I 3 from rfl, n3, n4, bx1, bx1, if_neg (by rw [I_inj (by omega) (by omega)]; exact h1)]
    by_cases g0 : g = 0
    · have s0 := h3 g0
      subst g0; subst s0
      rw [if_pos rfl, if_pos rfl]
    · rw [if_neg (by rw [I_inj (by omega) (by omega)]; exact g0)]
theorem does_send_eq (cs cw ct cl cb cp : St) (x2 x3 x4 x5 : Int32) : fL_does cs cw ct cl cb cp 10 x2 x3 x4 x5 0 = hxb (fX5_send cs cw ct cl cb cp x2 x3 x4 x5) (fun q178 => some (q178.1, (q178.2.1), cw, (q178.2.2.1), cl, (q178.2.2.2.1), (q178.2.2.2.2))) (fun kx => if kx = 1 then some ((-3000), cs, cw, ct, cl, cb, cp) else if kx = 2 then some ((-2000), cs, cw, ct, cl, cb, cp) else if kx = 3 then some ((-1000), cs, cw, ct, cl, cb, cp) else none) := by
  unfold fL_does
  rw [if_neg (by decide), if_neg (by decide), if_neg (by decide), if_neg (by decide), if_neg (by decide), if_neg (by decide), if_neg (by decide), if_neg (by decide), if_neg (by decide), if_neg (by decide), if_pos rfl]
theorem does_walk {N : Nat} {cs cw ct cl cb cp mm : St} (hr : Rel N cs cw ct cl cb mm) {f t : Nat} (hf : f < 10) (ht : t < 10) : ∃ v, (v = -1000 ∨ v = -2000 ∨ v = nn ∨ ∃ m, m ≤ 12 ∧ v = I m) ∧ fL_does cs cw ct cl cb cp 16 (I f) (I t) 0 0 0 = some (v, cs, cw, ct, cl, cb, cp) := by
  have e : fL_does cs cw ct cl cb cp 16 (I f) (I t) 0 0 0 = hxb (fX5_walk cw ct cl cb (I f) (I t)) (fun q265 => some (q265, cs, cw, ct, cl, cb, cp)) (fun kx => if kx = 1 then some ((-3000), cs, cw, ct, cl, cb, cp) else if kx = 2 then some ((-2000), cs, cw, ct, cl, cb, cp) else if kx = 3 then some ((-1000), cs, cw, ct, cl, cb, cp) else none) := by
    unfold fL_does
    rw [if_neg (by decide), if_neg (by decide), if_neg (by decide), if_neg (by decide), if_neg (by decide), if_neg (by decide), if_neg (by decide), if_neg (by decide), if_neg (by decide), if_neg (by decide), if_neg (by decide), if_neg (by decide), if_neg (by decide), if_neg (by decide), if_neg (by decide), if_neg (by decide)]
  rw [e]
  have pw := p_walk cw ct cl cb hf ht
  rcases sim_walk hr (I f) (I t) with ⟨k, r, m', -, y, -⟩ | ⟨r, m', y, -⟩
  · rcases pw _ y with z | z | z | ⟨m, hm, z⟩
    · cases z; rw [y]; exact ⟨-2000, Or.inr (Or.inl rfl), rfl⟩
    · cases z; rw [y]; exact ⟨-1000, Or.inl rfl, rfl⟩
    · cases z
    · cases z
  · rcases pw _ y with z | z | z | ⟨m, hm, z⟩
    · cases z
    · cases z
    · cases z; rw [y]; exact ⟨nn, Or.inr (Or.inr (Or.inl rfl)), rfl⟩
    · cases z; rw [y]; exact ⟨I m, Or.inr (Or.inr (Or.inr ⟨m, hm, rfl⟩)), rfl⟩
theorem sent_178 {N : Nat} {cs cw ct cl cb cp cg mm : St} (hr : Rel N cs cw ct cl cb mm) {f t t' r : Nat} (hf : f < 10) (ht : t < 11) (ht' : t' < 10) (hrr : r ≤ 1600) : fL_isSent_J178 cs cw ct cl cb cp cg (I t) (I r) (I t') (I f) 16 = some (I 1, cs, cw, ct, cl, cb, cp, cg) := by
  obtain ⟨v, hv, e⟩ := does_walk (cp := cp) hr hf ht'
  unfold fL_isSent_J178
  rw [e, bd1, if_neg (show ¬ I r < 0 by rw [zeroI, I_f (by omega) (by omega)]; exact fun z => z), if_neg (show ¬ (2000 : Int32) ≤ I r by rw [lit, I_lt_f (by omega) (by omega)]; exact fun z => z)]
  by_cases t10 : I t = 10
  · rw [if_pos t10]; rfl
  · rw [if_neg t10]
    dsimp only
    rcases hv with rfl | rfl | rfl | ⟨m, hm, rfl⟩
    · rw [if_pos rfl]; rfl
    · rw [if_neg (by decide), if_pos rfl]; rfl
    · rw [if_neg (by decide), if_neg (by decide), if_neg (by decide), if_neg (by decide)]; rfl
    · have b0 : (0 : Int32) ≤ I m := by rw [zeroI, I_lt_t (by omega) (by omega)]; trivial
      have i0 := I_int (show m < 2147483648 by omega)
      rw [if_neg (fun z => by rw [z] at i0; exact absurd i0 (by rw [show (-1000 : Int32).toInt = -1000 by decide]; omega)), if_neg (fun z => by rw [z] at i0; exact absurd i0 (by rw [show (-2000 : Int32).toInt = -2000 by decide]; omega)), if_neg (fun z => by rw [Int32.lt_iff_toInt_lt, i0, show (-1 : Int32).toInt = -1 by decide] at z; omega), if_neg (show ¬ (13 : Int32) ≤ I m by rw [lit, I_lt_f (by omega) (by omega)]; exact fun z => z)]
      rfl
theorem lp_sent_go {N n : Nat} {cs cw ct cl cb cp cg : St} (h : LInv N n cs cw ct cl cb cg) (hN : N + 10 ≤ 100000) (hn : n ≤ 100) {f t g s : Nat} (hf : f < 10) (ht : t < 12) (hg : g < 5) (hs : s < 4) :
    ∃ cs' cw' ct' cl' cb' cp' cg', fL_isSent_J57 cs cw ct cl cb cp cg (I f) (I t) (I g) (I s) = some (I 1, cs', cw', ct', cl', cb', cp', cg') ∧ LInv N (n + 1) cs' cw' ct' cl' cb' cg' := by
  obtain ⟨s1, s2, s3⟩ := send_eval cs cw ct cl cb cp hf ht hg hs
  have hm : LInv N (n + 1) cs cw ct cl cb cg := h.mono (by omega)
  unfold fL_isSent_J57
  rw [does_send_eq]
  have bad : ∀ k : Nat, fX5_send cs cw ct cl cb cp (I f) (I t) (I g) (I s) = some (.inr k) → True := fun _ _ => trivial
  by_cases t11 : t = 11
  · subst t11
    rw [s1 rfl]
    refine ⟨cs, cw, ct, cl, cb, cp, cg, ?_, hm⟩
    show bd (some _) _ = _
    rw [bd1, if_pos (show I 11 = 11 from rfl)]
    unfold fL_isSent_J132
    rw [if_neg (by decide)]
    rfl
  · have nt : ¬ I t = 11 := by rw [lit, I_inj (by omega) (by omega)]; exact t11
    by_cases hb : f = t ∨ g = 4 ∨ (g = 0 ∧ 0 < s)
    · rw [s2 (by omega) hb]
      refine ⟨cs, cw, ct, cl, cb, cp, cg, ?_, hm⟩
      have fin : fL_isSent_J132 cs cw ct cl cb cp cg (I f) (I t) (-2000) (-2000) = some (I 1, cs, cw, ct, cl, cb, cp, cg) := by
        unfold fL_isSent_J132
        rw [if_neg (by decide)]
        rfl
      show bd (some _) _ = _
      rw [bd1, if_neg nt]
      by_cases e1 : f = t
      · subst e1
        rw [if_pos rfl]; exact fin
      · rw [if_neg (by rw [I_inj (by omega) (by omega)]; exact e1)]
        by_cases e2 : g = 4
        · subst e2
          rw [if_pos (show I 4 = 4 from rfl)]; exact fin
        · have g0 : g = 0 ∧ 0 < s := by omega
          obtain ⟨rfl, g0⟩ := g0
          rw [if_neg (by decide), if_pos (show I 0 = 0 from rfl), if_neg (show ¬ I s ≤ 0 by rw [zeroI, I_lt_f (by omega) (by omega)]; exact fun z => z)]
          exact fin
    · have hne : f ≠ t := fun e => hb (Or.inl e)
      have hg4 : g < 4 := by
        have : g ≠ 4 := fun e => hb (Or.inr (Or.inl e))
        omega
      have h00 : g = 0 → s = 0 := by
        intro e
        have : ¬ 0 < s := fun z => hb (Or.inr (Or.inr ⟨e, z⟩))
        omega
      rw [s3 (by omega) hne hg4 h00]
      obtain ⟨⟨mm, hr⟩, ⟨c1, c2, c3, c4⟩, lw, lh, lk, g1, g2, g3, g4, g5, g6⟩ := id hm
      -- behind the call: the law's own row decides
      have after : ∀ (r : Int32) (cs' cw' ct' cl' cb' cp' : St) (q : Option (Int32 × St × St × St × St × St × St × St)), fL_isSent_J118 cs' cw' ct' cl' cb' cp' cg (I f) (I t) r = q → (if I t = 11 then fL_isSent_J132 cs' cw' ct' cl' cb' cp' cg (I f) (I t) r (-3000) else if I f = I t then fL_isSent_J132 cs' cw' ct' cl' cb' cp' cg (I f) (I t) r (-2000) else if I g = 4 then fL_isSent_J132 cs' cw' ct' cl' cb' cp' cg (I f) (I t) r (-2000) else if I g = 0 then (if I s ≤ 0 then fL_isSent_J118 cs' cw' ct' cl' cb' cp' cg (I f) (I t) r else fL_isSent_J132 cs' cw' ct' cl' cb' cp' cg (I f) (I t) r (-2000)) else fL_isSent_J118 cs' cw' ct' cl' cb' cp' cg (I f) (I t) r) = q := by
        intro r cs' cw' ct' cl' cb' cp' q hq
        rw [if_neg nt, if_neg (by rw [I_inj (by omega) (by omega)]; exact hne), if_neg (by rw [lit, I_inj (by omega) (by omega)]; omega)]
        by_cases g0 : g = 0
        · have s0 := h00 g0
          subst g0; subst s0
          rw [if_pos z00, if_pos (by decide)]; exact hq
        · rw [if_neg (by rw [zeroI, I_inj (by omega) (by omega)]; exact g0)]; exact hq
      rcases rel_sp hr hf with ⟨e1, -⟩ | ⟨p, hp, e1, -⟩
      · have ej : fX5_send_J51 cs cw ct cl cb cp (I f) (I t) (I g) (I s) = some (.inr 3) := by
          unfold fX5_send_J51
          rw [inb_t hf (by omega), ck1, I_nat (by omega), e1]
          rfl
        rw [ej]
        refine ⟨cs, cw, ct, cl, cb, cp, cg, ?_, hm⟩
        show bd (some _) _ = _
        rw [bd1]
        refine after _ _ _ _ _ _ _ _ ?_
        unfold fL_isSent_J118
        rw [inb_t hf (by omega), ck1, I_nat (by omega), lh f hf, e1, if_neg (show ¬ (0 : Int32) ≤ nn by decide)]
        unfold fL_isSent_J132
        rw [if_neg (by decide)]
        rfl
      · obtain ⟨⟨b, hb1, hb2, hb3⟩, ⟨lim, hl1, hl2, hl3⟩⟩ := rel_now hr
        have hbeat : ct 9 0 + 5 ≠ I 0 := by
          rw [hb3, show I b + 5 = I (b + 5) from I_add b 5, ne_eq, I_inj (by omega) (by omega)]; omega
        have hB : ∀ k : Nat, lim ≤ 101 + n ∧ 101 + n ≤ 1000 := fun _ => ⟨by omega, by omega⟩
        obtain ⟨-, ⟨-, -, -, c4'⟩, -⟩ := id h
        have hsi : SI cw lim (fun _ => 101 + n) cs ct cb := ⟨c1, c2, fun k hk => by
          obtain ⟨q, q1, q2⟩ := c4' k hk
          exact ⟨q, q1, Or.inl q2⟩, hl3⟩
        obtain ⟨r, cs', ct', cb', cp', mm', a1, a2, a3, a4, a5, a6, a7⟩ := frame_go hr hl2 hB hsi hbeat cp hf (show t ≤ 10 by omega) hp (show g ≤ 3 by omega) (show s ≤ 3 by omega) e1
        rw [a1]
        obtain ⟨x1, x2, x3, x4⟩ := a3
        refine ⟨cs', cw, ct', cl, cb', cp', aS cg 4 (I 4) (cg 4 4 + I r), ?_, ⟨mm', a2⟩, ⟨x1, x2, fun j hj => ?_, fun k hk => ?_⟩, fun k hk => ?_, fun g' hg' => ?_, fun i hi => ?_, ?_, ?_, ?_, ?_, ?_, ?_⟩
        · show bd (some _) _ = _
          rw [bd1]
          refine after _ _ _ _ _ _ _ _ ?_
          unfold fL_isSent_J118
          rw [inb_t hf (by omega), ck1, I_nat (by omega), lh f hf, e1, if_pos (show (0 : Int32) ≤ I p by rw [zeroI, I_lt_t (by omega) (by omega)]; trivial)]
          unfold fL_isSent_J132
          rw [if_pos (by decide), show inb 4 6 = true by decide, ck1, ck1]
          by_cases t10 : t = 10
          · subst t10
            rw [if_pos (show I 10 = 10 from rfl)]
            exact sent_178 (t' := 0) a2 hf (by omega) (by omega) a4
          · rw [if_neg (by rw [lit, I_inj (by omega) (by omega)]; exact t10)]
            exact sent_178 (t' := t) a2 hf (by omega) (by omega) a4
        · have := c3 j hj
          unfold Own at this ⊢
          rw [a7 4 (by decide), a7 1 (by decide), a7 2 (by decide), a7 3 (by decide)]
          exact this
        · obtain ⟨q, q1, q2⟩ := x3 k hk
          have q3 : q ≤ 101 + n ∨ (q ≤ 101 + n + 1 ∧ ct' 6 k = I 0) := q2
          exact ⟨q, q1, by omega⟩
        · simp (disch := omega) only [ck1, bd1, bx1, bx2, aS_at, iS_at, upd_at, ↓reduceIte, Nat.reduceEqDiff, Nat.reduceAdd, Nat.reduceMul, Nat.reduceSub, Nat.reduceDiv, Nat.reduceLT, Nat.reduceLeDiff, Nat.reduceBEq, ne_eq, not_true_eq_false, not_false_eq_true, reduceCtorEq, if_true, if_false, eq_self, Nat.add_zero, Nat.zero_add, lit, lit_nn, I_nat, I_add, I_mul, I_sub, I_div, inb_t, I_ne, I_nn, nn_I, nn_lt, nn_le, lt_nn, le_nn, I_t, I_f, I_lt_t, I_lt_f, isb_0, isb_1, vz_0, vz_1, nn_nat]; exact lw k hk
        · simp (disch := omega) only [ck1, bd1, bx1, bx2, aS_at, iS_at, upd_at, ↓reduceIte, Nat.reduceEqDiff, Nat.reduceAdd, Nat.reduceMul, Nat.reduceSub, Nat.reduceDiv, Nat.reduceLT, Nat.reduceLeDiff, Nat.reduceBEq, ne_eq, not_true_eq_false, not_false_eq_true, reduceCtorEq, if_true, if_false, eq_self, Nat.add_zero, Nat.zero_add, lit, lit_nn, I_nat, I_add, I_mul, I_sub, I_div, inb_t, I_ne, I_nn, nn_I, nn_lt, nn_le, lt_nn, le_nn, I_t, I_f, I_lt_t, I_lt_f, isb_0, isb_1, vz_0, vz_1, nn_nat]; exact lh g' hg'
        · simp (disch := omega) only [ck1, bd1, bx1, bx2, aS_at, iS_at, upd_at, ↓reduceIte, Nat.reduceEqDiff, Nat.reduceAdd, Nat.reduceMul, Nat.reduceSub, Nat.reduceDiv, Nat.reduceLT, Nat.reduceLeDiff, Nat.reduceBEq, ne_eq, not_true_eq_false, not_false_eq_true, reduceCtorEq, if_true, if_false, eq_self, Nat.add_zero, Nat.zero_add, lit, lit_nn, I_nat, I_add, I_mul, I_sub, I_div, inb_t, I_ne, I_nn, nn_I, nn_lt, nn_le, lt_nn, le_nn, I_t, I_f, I_lt_t, I_lt_f, isb_0, isb_1, vz_0, vz_1, nn_nat]; exact lk i hi
        · simp (disch := omega) only [ck1, bd1, bx1, bx2, aS_at, iS_at, upd_at, ↓reduceIte, Nat.reduceEqDiff, Nat.reduceAdd, Nat.reduceMul, Nat.reduceSub, Nat.reduceDiv, Nat.reduceLT, Nat.reduceLeDiff, Nat.reduceBEq, ne_eq, not_true_eq_false, not_false_eq_true, reduceCtorEq, if_true, if_false, eq_self, Nat.add_zero, Nat.zero_add, lit, lit_nn, I_nat, I_add, I_mul, I_sub, I_div, inb_t, I_ne, I_nn, nn_I, nn_lt, nn_le, lt_nn, le_nn, I_t, I_f, I_lt_t, I_lt_f, isb_0, isb_1, vz_0, vz_1, nn_nat, g1]
        · simp (disch := omega) only [ck1, bd1, bx1, bx2, aS_at, iS_at, upd_at, ↓reduceIte, Nat.reduceEqDiff, Nat.reduceAdd, Nat.reduceMul, Nat.reduceSub, Nat.reduceDiv, Nat.reduceLT, Nat.reduceLeDiff, Nat.reduceBEq, ne_eq, not_true_eq_false, not_false_eq_true, reduceCtorEq, if_true, if_false, eq_self, Nat.add_zero, Nat.zero_add, lit, lit_nn, I_nat, I_add, I_mul, I_sub, I_div, inb_t, I_ne, I_nn, nn_I, nn_lt, nn_le, lt_nn, le_nn, I_t, I_f, I_lt_t, I_lt_f, isb_0, isb_1, vz_0, vz_1, nn_nat, g2]
        · rw [a7 9 (by decide)]
          simp (disch := omega) only [ck1, bd1, bx1, bx2, aS_at, iS_at, upd_at, ↓reduceIte, Nat.reduceEqDiff, Nat.reduceAdd, Nat.reduceMul, Nat.reduceSub, Nat.reduceDiv, Nat.reduceLT, Nat.reduceLeDiff, Nat.reduceBEq, ne_eq, not_true_eq_false, not_false_eq_true, reduceCtorEq, if_true, if_false, eq_self, Nat.add_zero, Nat.zero_add, lit, lit_nn, I_nat, I_add, I_mul, I_sub, I_div, inb_t, I_ne, I_nn, nn_I, nn_lt, nn_le, lt_nn, le_nn, I_t, I_f, I_lt_t, I_lt_f, isb_0, isb_1, vz_0, vz_1, nn_nat, g3]
        · rw [a6 9 (by decide)]
          simp (disch := omega) only [ck1, bd1, bx1, bx2, aS_at, iS_at, upd_at, ↓reduceIte, Nat.reduceEqDiff, Nat.reduceAdd, Nat.reduceMul, Nat.reduceSub, Nat.reduceDiv, Nat.reduceLT, Nat.reduceLeDiff, Nat.reduceBEq, ne_eq, not_true_eq_false, not_false_eq_true, reduceCtorEq, if_true, if_false, eq_self, Nat.add_zero, Nat.zero_add, lit, lit_nn, I_nat, I_add, I_mul, I_sub, I_div, inb_t, I_ne, I_nn, nn_I, nn_lt, nn_le, lt_nn, le_nn, I_t, I_f, I_lt_t, I_lt_f, isb_0, isb_1, vz_0, vz_1, nn_nat, g4]
        · rw [a5]
          simp (disch := omega) only [ck1, bd1, bx1, bx2, aS_at, iS_at, upd_at, ↓reduceIte, Nat.reduceEqDiff, Nat.reduceAdd, Nat.reduceMul, Nat.reduceSub, Nat.reduceDiv, Nat.reduceLT, Nat.reduceLeDiff, Nat.reduceBEq, ne_eq, not_true_eq_false, not_false_eq_true, reduceCtorEq, if_true, if_false, eq_self, Nat.add_zero, Nat.zero_add, lit, lit_nn, I_nat, I_add, I_mul, I_sub, I_div, inb_t, I_ne, I_nn, nn_I, nn_lt, nn_le, lt_nn, le_nn, I_t, I_f, I_lt_t, I_lt_f, isb_0, isb_1, vz_0, vz_1, nn_nat, g5]
        · simp (disch := omega) only [ck1, bd1, bx1, bx2, aS_at, iS_at, upd_at, ↓reduceIte, Nat.reduceEqDiff, Nat.reduceAdd, Nat.reduceMul, Nat.reduceSub, Nat.reduceDiv, Nat.reduceLT, Nat.reduceLeDiff, Nat.reduceBEq, ne_eq, not_true_eq_false, not_false_eq_true, reduceCtorEq, if_true, if_false, eq_self, Nat.add_zero, Nat.zero_add, lit, lit_nn, I_nat, I_add, I_mul, I_sub, I_div, inb_t, I_ne, I_nn, nn_I, nn_lt, nn_le, lt_nn, le_nn, I_t, I_f, I_lt_t, I_lt_f, isb_0, isb_1, vz_0, vz_1, nn_nat]; exact g6
theorem lp_sent {N n : Nat} {cs cw ct cl cb cp cg : St} (h : LInv N n cs cw ct cl cb cg) (hN : N + 10 ≤ 100000) (hn : n ≤ 100) {a b : Nat} (ha : a < 2147483648) (hb : b < 2147483648) :
    ∃ cs' cw' ct' cl' cb' cp' cg', fL_isSent cs cw ct cl cb cp cg (I a) (I b) = some (I 1, cs', cw', ct', cl', cb', cp', cg') ∧ LInv N (n + 1) cs' cw' ct' cl' cb' cg' := by
  have e5 : I b - I b / 5 * 5 = I (b % 5) := mod5 hb
  have ef : I a - I a / 10 * 10 = I (a % 10) := by rw [show (10 : Int32) = I 10 from rfl, mod_I ha (by omega)]
  have et : I a / 10 - I a / 10 / 12 * 12 = I (a / 10 % 12) := by rw [show (10 : Int32) = I 10 from rfl, show (12 : Int32) = I 12 from rfl, I_div ha (by omega), mod_I (by omega) (by omega)]
  have eg : I b / 5 - I b / 5 / 5 * 5 = I (b / 5 % 5) := by rw [div5 hb, mod5 (by omega)]
  have e25 : I b / 25 - I b / 25 / 4 * 4 = I (b / 25 % 4) := by rw [show (25 : Int32) = I 25 from rfl, show (4 : Int32) = I 4 from rfl, I_div hb (by omega), mod_I (by omega) (by omega)]
  have e100 : I b / 100 - I b / 100 / 4 * 4 = I (b / 100 % 4) := by rw [show (100 : Int32) = I 100 from rfl, show (4 : Int32) = I 4 from rfl, I_div hb (by omega), mod_I (by omega) (by omega)]
  have two : ∀ g, g < 5 → ∃ cs' cw' ct' cl' cb' cp' cg', fL_isSent_J34 cs cw ct cl cb cp cg (I b) (I (a % 10)) (I (a / 10 % 12)) (I g) = some (I 1, cs', cw', ct', cl', cb', cp', cg') ∧ LInv N (n + 1) cs' cw' ct' cl' cb' cg' := by
    intro g hg
    unfold fL_isSent_J34
    rw [e25, e100]
    by_cases z : I (b / 25 % 4) = 0
    · rw [if_pos z]
      exact lp_sent_go h hN hn (by omega) (by omega) hg (by omega)
    · rw [if_neg z]
      exact lp_sent_go (s := 0) h hN hn (by omega) (by omega) hg (by omega)
  unfold fL_isSent
  rw [e5, ef, et, eg]
  by_cases z : I (b % 5) = 0
  · rw [if_pos z]; exact two _ (by omega)
  · rw [if_neg z]; exact two 0 (by omega)

/-! ===== a step of a frame, a frame ===== -/
theorem Res.zero {cw : St} {lim : Nat} {B : Nat → Nat} {cs ct cb cb' cp : St} (h : SI cw lim B cs ct cb → SI cw lim B cs ct cb') : Res cw lim B cs ct cb ((0 : Int32), cs, ct, cb', cp) := by
  refine ⟨0, by omega, rfl, ?_, h, Fs.refl _ _, Fs.refl _ _⟩
  show all7 cs = all7 cs + 0
  simp
theorem p_way {cw : St} {lim : Nat} {B : Nat → Nat} (cs ct cl cb cb0 cp : St) {i p : Nat} (hi : i < 400) (hp : p < 30) (ei : cp 0 i = I p) (hopen : ct 6 p ≠ I 0) (hlim : lim ≤ 100) (hB : ∀ k, lim ≤ B k ∧ B k ≤ 1000) (hb : ct 9 0 + 5 ≠ I 0) (x3 x4 x5 x6 y : Int32) (hs : SI cw lim B cs ct cb0 → SI cw lim B cs ct cb) : Pc (fX5_takeStep_J82 cs cw ct cl cb cp (I i) x3 x4 x5 x6 y) (Res cw lim B cs ct cb0) := by
  have fl : Pc (fX5_takeStep_J108 cs cw ct cl cb cp (I i) x3 x5) (Res cw lim B cs ct cb0) := by
    unfold fX5_takeStep_J108
    refine pc_bd (p_flood cs ct cl cb cp hi hp ei hopen hlim hB hb x5 x3) fun r hr => pc_some ?_
    obtain ⟨t, t1, t2, t3, t4, t5, t6⟩ := hr
    exact ⟨t, t1, t2, t3, fun h => t4 (hs h), t5, t6⟩
  unfold fX5_takeStep_J82
  refine pc_if (fun _ => fl) (fun _ => pc_bd pc_any fun q _ => pc_ck fun _ => pc_if (fun _ => fl) (fun _ => pc_bd pc_any fun u _ => pc_if (fun _ => pc_some (Res.zero hs)) (fun _ => pc_bd (p_out _ _ _ _ _ _ _ _) fun r hr => pc_some ?_)))
  obtain ⟨t, t1, t2, t3, t4⟩ := hr
  refine ⟨t, by omega, t2, t3, fun h => ?_, t4.mono (by decide), Fs.refl _ _⟩
  obtain ⟨s1, s2, s3, s4⟩ := hs h
  exact ⟨s1, s2, s3.ext (t4 6 (by decide)), by dsimp only; rw [t4 9 (by decide)]; exact s4⟩
theorem p_step {cw : St} {lim : Nat} {B : Nat → Nat} (cs ct cl cb cp : St) {i p g : Nat} (hi : i < 400) (hp : p < 30) (hg : g < 10) (ei : cp 0 i = I p) (hlane : ∀ l, fX5_laneLetIn ct cl (cp 0 i) (cp 1 i) = some l → l = I 0 ∨ ∃ m, 1 ≤ m ∧ m ≤ 3 ∧ l = I m) (hlim : lim ≤ 100) (hB : ∀ k, lim ≤ B k ∧ B k ≤ 1000) (hb : ct 9 0 + 5 ≠ I 0) (x3 : Int32) : Pc (fX5_takeStep cs cw ct cl cb cp (I i) (I g) x3) (Res cw lim B cs ct cb) := by
  unfold fX5_takeStep
  rw [I_nat (by omega)]
  refine pc_ck fun _ => pc_ck fun _ => pc_bd (Ψ := fun q => fX5_laneLetIn ct cl (cp 0 i) (cp 1 i) = some q) (fun _ h => h) fun q hq => pc_if (fun _ => pc_some (Res.zero fun h => h)) (fun c => ?_)
  obtain ⟨k, hk, ek, hz⟩ := p_lane ct cl _ _ q hq
  rw [ei, I_inj (by omega) (by omega)] at ek
  subst ek
  have hopen : ct 6 p ≠ I 0 := fun e => c (hz e)
  rcases hlane q hq with e | ⟨m, m1, m2, rfl⟩
  · exact absurd e c
  · rw [ei]
    refine pc_bd (p_hear cb hp m1 m2 hg _) fun d hd => ?_
    have hs : SI cw lim B cs ct cb → SI cw lim B cs ct d := by
      intro h
      obtain ⟨s1, s2, s3, s4⟩ := h
      refine ⟨s1, fun j hj o ho => ?_, s3, s4⟩
      obtain ⟨o', ho', e | e⟩ := hd
      · rw [e]; exact s2 j hj o ho
      · rw [e, upd_at]
        by_cases w : 30 * j + o = 30 * (p / 5) + o'
        · rw [if_pos w]
          right
          have hj' : j = p / 5 := by omega
          subst hj'
          refine ⟨p % 5, by omega, rfl, ?_⟩
          rw [show 5 * (p / 5) + p % 5 = p by omega]
          obtain ⟨-, -, -, x4, x5⟩ := s1 p hp
          have o1 : ct 6 p = I 1 := by
            rcases x5 with x5 | x5
            · exact absurd x5 hopen
            · exact x5
          exact ⟨(x4 o1).2, (x4 o1).1⟩
        · rw [if_neg w]; exact s2 j hj o ho
    refine pc_if (fun _ => ?_) (fun _ => pc_bd pc_any fun u _ => ?_)
    · exact p_way cs ct cl d cb cp hi hp ei hopen hlim hB hb _ _ _ _ _ hs
    · exact p_way cs ct cl d cb cp hi hp ei hopen hlim hB hb _ _ _ _ _ hs
/-- a frame: with the relation, and what holds besides -/
theorem frame_run {N : Nat} {cw cl : St} {lim : Nat} {B : Nat → Nat} (hlim : lim ≤ 100) (hB : ∀ k, lim ≤ B k ∧ B k ≤ 1000) {g to : Nat} (hg : g < 10) (ht : to ≤ 10) : ∀ d x m r n (cs ct cb cp mm : St), x + d = 400 → d < m → n ≤ 1 + 5 * x → r ≤ 4 * x → Rel N cs cw ct cl cb mm → Qu n cp mm → SI cw lim B cs ct cb → ct 9 0 + 5 ≠ I 0 → ∃ r' cs' ct' cb' cp' mm', loopN (fun k a => fX5_send_S104 k cw cl (I g) (I to) (a.1) (a.2.1) (a.2.2.1) (a.2.2.2.1) (a.2.2.2.2.1) (a.2.2.2.2.2)) m (cs, ct, cb, cp, I r, I x) = some (.inl (I r', cs', ct', cb', cp')) ∧ Rel N cs' cw ct' cl cb' mm' ∧ SI cw lim B cs' ct' cb' ∧ r' ≤ 1600 ∧ (∀ v, all7 cs = v + I r → all7 cs' = v + I r') ∧ Fs [6, 7, 8] cs cs' ∧ Fs [5, 6, 7, 8] ct ct' := by
  intro d
  induction d with
  | zero =>
    intro x m r n cs ct cb cp mm hx hm hn hr h hq hs hb
    obtain ⟨m, rfl⟩ : ∃ k, m = k + 1 := ⟨m - 1, by omega⟩
    have e : x = 400 := by omega
    subst e
    obtain ⟨q1, q2, q3⟩ := hq
    refine ⟨r, cs, ct, cb, cp, mm, ?_, h, hs, by omega, fun v hv => hv, Fs.refl _ _, Fs.refl _ _⟩
    rw [loopN_s]
    generalize loopN (fun k a => fX5_send_S104 k cw cl (I g) (I to) (a.1) (a.2.1) (a.2.2.1) (a.2.2.2.1) (a.2.2.2.2.1) (a.2.2.2.2.2)) m = rec
    simp (disch := omega) only [fX5_send_S104, ck1, bd1, bx1, bx2, aS_at, iS_at, upd_at, ↓reduceIte, Nat.reduceEqDiff, Nat.reduceAdd, Nat.reduceMul, Nat.reduceSub, Nat.reduceDiv, Nat.reduceLT, Nat.reduceLeDiff, Nat.reduceBEq, ne_eq, not_true_eq_false, not_false_eq_true, reduceCtorEq, if_true, if_false, eq_self, Nat.add_zero, Nat.zero_add, lit, lit_nn, I_nat, I_add, I_mul, I_sub, I_div, inb_t, I_ne, I_nn, nn_I, nn_lt, nn_le, lt_nn, le_nn, I_t, I_f, I_lt_t, I_lt_f, isb_0, isb_1, vz_0, vz_1, nn_nat]
  | succ d ih =>
    intro x m r n cs ct cb cp mm hx hm hn hr h hq hs hb
    obtain ⟨m, rfl⟩ : ∃ k, m = k + 1 := ⟨m - 1, by omega⟩
    obtain ⟨q1, q2, q3⟩ := id hq
    by_cases z : n ≤ x
    · rw [show min n 400 = n by omega] at q2
      refine ⟨r, cs, ct, cb, cp, mm, ?_, h, hs, by omega, fun v hv => hv, Fs.refl _ _, Fs.refl _ _⟩
      rw [loopN_s]
      generalize loopN (fun k a => fX5_send_S104 k cw cl (I g) (I to) (a.1) (a.2.1) (a.2.2.1) (a.2.2.2.1) (a.2.2.2.2.1) (a.2.2.2.2.2)) m = rec
      simp (disch := omega) only [fX5_send_S104, ck1, bd1, bx1, bx2, aS_at, iS_at, upd_at, ↓reduceIte, Nat.reduceEqDiff, Nat.reduceAdd, Nat.reduceMul, Nat.reduceSub, Nat.reduceDiv, Nat.reduceLT, Nat.reduceLeDiff, Nat.reduceBEq, ne_eq, not_true_eq_false, not_false_eq_true, reduceCtorEq, if_true, if_false, eq_self, Nat.add_zero, Nat.zero_add, lit, lit_nn, I_nat, I_add, I_mul, I_sub, I_div, inb_t, I_ne, I_nn, nn_I, nn_lt, nn_le, lt_nn, le_nn, I_t, I_f, I_lt_t, I_lt_f, isb_0, isb_1, vz_0, vz_1, nn_nat, q2]
    · obtain ⟨r1, n', cs', ct', cb', cp', mm', a1, a2, a3, a4, a5, a6, a7, a8⟩ := step_both h hq (by omega) (show x < n by omega) (by omega) hg ht
      obtain ⟨p, t, e, o, hp, ht3, he3, ho, b1, b2, b3, b4, b5, b6, b7, b8⟩ := q3 x (by omega) (by omega)
      have hl : ∀ l, fX5_laneLetIn ct cl (cp 0 x) (cp 1 x) = some l → l = I 0 ∨ ∃ m, 1 ≤ m ∧ m ≤ 3 ∧ l = I m := by
        intro l el
        obtain ⟨l', hl', l1, -⟩ := lane_both h hp ht3
        rw [b1, b3, l1] at el
        cases el
        cases l' with
        | zero => exact Or.inl rfl
        | succ l' => exact Or.inr ⟨l' + 1, by omega, hl', rfl⟩
      obtain ⟨t1, t2, t3, t4, t5, t6, t7⟩ := p_step (cw := cw) (lim := lim) (B := B) cs ct cl cb cp (show x < 400 by omega) hp hg b1 hl hlim hB hb (I to) _ a4
      dsimp only at t3 t4 t5 t6 t7
      have er : r1 = t1 := by
        rw [I_inj (by omega) (by omega)] at t3
        exact t3
      subst er
      have hb' : ct' 9 0 + 5 ≠ I 0 := by rw [t7 9 (by decide)]; exact hb
      obtain ⟨r2, cs2, ct2, cb2, cp2, mm2, c1, c2, c3, c4, c5, c6, c7⟩ := ih (x + 1) m (r + r1) n' cs' ct' cb' cp' mm' (by omega) (by omega) (by omega) (by omega) a6 a7 (t5 hs) hb'
      have hmin : x < min n 400 := by omega
      have hmin4 : min n 400 ≤ 400 := by omega
      refine ⟨r2, cs2, ct2, cb2, cp2, mm2, ?_, c2, c3, c4, fun v hv => ?_, t6.trans c6, t7.trans c7⟩
      · rw [← c1, loopN_s]
        generalize loopN (fun k a => fX5_send_S104 k cw cl (I g) (I to) (a.1) (a.2.1) (a.2.2.1) (a.2.2.2.1) (a.2.2.2.2.1) (a.2.2.2.2.2)) m = rec
        simp (disch := omega) only [fX5_send_S104, ck1, bd1, bx1, bx2, aS_at, iS_at, upd_at, ↓reduceIte, Nat.reduceEqDiff, Nat.reduceAdd, Nat.reduceMul, Nat.reduceSub, Nat.reduceDiv, Nat.reduceLT, Nat.reduceLeDiff, Nat.reduceBEq, ne_eq, not_true_eq_false, not_false_eq_true, reduceCtorEq, if_true, if_false, eq_self, Nat.add_zero, Nat.zero_add, lit, lit_nn, I_nat, I_add, I_mul, I_sub, I_div, inb_t, I_ne, I_nn, nn_I, nn_lt, nn_le, lt_nn, le_nn, I_t, I_f, I_lt_t, I_lt_f, isb_0, isb_1, vz_0, vz_1, nn_nat, q2, a4]
      · refine c5 v ?_
        rw [t4, hv, Int32.add_assoc, I_add]
theorem frame_go {N : Nat} {cs cw ct cl cb mm : St} {lim : Nat} {B : Nat → Nat} (h : Rel N cs cw ct cl cb mm) (hlim : lim ≤ 100) (hB : ∀ k, lim ≤ B k ∧ B k ≤ 1000) (hs : SI cw lim B cs ct cb) (hb : ct 9 0 + 5 ≠ I 0) (cp : St) {g to p t e : Nat} (hg : g < 10) (ht : to ≤ 10) (hp : p < 30) (htt : t ≤ 3) (he : e ≤ 3) (hc : cw 4 g = I p) : ∃ r cs' ct' cb' cp' mm', fX5_send_J51 cs cw ct cl cb cp (I g) (I to) (I t) (I e) = some (.inl (I r, cs', ct', cb', cp')) ∧ Rel N cs' cw ct' cl cb' mm' ∧ SI cw lim B cs' ct' cb' ∧ r ≤ 1600 ∧ all7 cs' = all7 cs + I r ∧ Fs [6, 7, 8] cs cs' ∧ Fs [5, 6, 7, 8] ct ct' := by
  obtain ⟨cp1, m1, a1, a2, a3, a4, a5, a6⟩ := queue_first (cp := cp) (mm := iS mm 40 (I 0)) hp htt he
  have h0 : Rel N cs cw ct cl cb (iS mm 40 (I 0)) := h
  have h1 : Rel N cs cw ct cl cb m1 := h0.queue a4 a5 a6
  obtain ⟨r, cs', ct', cb', cp', mm', b1, b2, b3, b4, b5, b6, b7⟩ := frame_run (cw := cw) (cl := cl) hlim hB hg ht 400 0 1000 0 1 cs ct cb cp1 m1 (by omega) (by omega) (by omega) (by omega) h1 a3 hs hb
  refine ⟨r, cs', ct', cb', cp', mm', ?_, b2, b3, b4, b5 (all7 cs) ?_, b6, b7⟩
  · refine Eq.trans ?_ b1
    simp (disch := omega) only [fX5_send_J51, fX1_restart, ck1, bd1, bx1, bx2, aS_at, iS_at, upd_at, ↓reduceIte, Nat.reduceEqDiff, Nat.reduceAdd, Nat.reduceMul, Nat.reduceSub, Nat.reduceDiv, Nat.reduceLT, Nat.reduceLeDiff, Nat.reduceBEq, ne_eq, not_true_eq_false, not_false_eq_true, reduceCtorEq, if_true, if_false, eq_self, Nat.add_zero, Nat.zero_add, lit, lit_nn, I_nat, I_add, I_mul, I_sub, I_div, inb_t, I_ne, I_nn, nn_I, nn_lt, nn_le, lt_nn, le_nn, I_t, I_f, I_lt_t, I_lt_f, isb_0, isb_1, vz_0, vz_1, nn_nat, hc]
    rw [a1, bd1]
    rfl
  · show all7 cs = all7 cs + 0
    simp

/-! ===== frames, in parts ===== -/
def sum7 (f : Nat → Int32) : Nat → Int32
  | 0 => 0
  | n + 1 => sum7 f n + f n
theorem sum7_hi (f : Nat → Int32) (a : Nat) (x : Int32) : ∀ n, n ≤ a → sum7 (upd f a x) n = sum7 f n := by
  intro n
  induction n with
  | zero => intro _; rfl
  | succ n ih =>
    intro h
    show sum7 (upd f a x) n + upd f a x n = _
    rw [ih (by omega), upd_at, if_neg (by omega)]
    rfl
theorem sum7_upd (f : Nat → Int32) (a : Nat) (x : Int32) : ∀ n, a < n → sum7 (upd f a (f a + x)) n = sum7 f n + x := by
  intro n
  induction n with
  | zero => intro h; omega
  | succ n ih =>
    intro h
    show sum7 (upd f a (f a + x)) n + upd f a (f a + x) n = (sum7 f n + f n) + x
    by_cases e : a = n
    · subst e
      rw [sum7_hi f a _ a (Nat.le_refl _), upd_at, if_pos rfl, Int32.add_assoc]
    · rw [ih (by omega), upd_at, if_neg (fun z => e z.symm), Int32.add_assoc, Int32.add_assoc, Int32.add_comm x]
def all7 (cs : St) : Int32 := sum7 (cs 7) 10
theorem p_hand (cs : St) (x y : Int32) : Pc (fX5_handOver cs x y) (fun r => ∃ t, t ≤ 1 ∧ r.1 = I t ∧ all7 r.2 = all7 cs + I t ∧ Fs [7, 8] cs r.2) := by
  unfold fX5_handOver
  have j18 : Pc (fX5_handOver_J18 cs x) (fun r => ∃ t, t ≤ 1 ∧ r.1 = I t ∧ all7 r.2 = all7 cs + I t ∧ Fs [7, 8] cs r.2) := by
    unfold fX5_handOver_J18
    refine pc_ck fun h => pc_ck fun _ => pc_some ⟨1, by omega, rfl, ?_, (Fs.refl _ _).aS (by decide) _ _⟩
    obtain ⟨k, hk, rfl⟩ := in10 h
    unfold all7
    dsimp only
    rw [aS_eq, I_nat (by omega)]
    exact sum7_upd (cs 7) k 1 10 hk
  refine pc_if (fun _ => pc_some ⟨0, by omega, rfl, ?_, Fs.refl _ _⟩) (fun _ => pc_if (fun _ => j18) (fun _ => pc_if (fun _ => j18) (fun _ => pc_ck fun _ => pc_ck fun _ => pc_some ⟨0, by omega, rfl, ?_, (Fs.refl _ _).aS (by decide) _ _⟩)))
  · show all7 cs = all7 cs + 0
    simp
  · show all7 _ = all7 cs + 0
    unfold all7
    dsimp only
    rw [aS_ne _ _ _ _ (by decide)]
    simp
theorem p_out (cs cw cl cp : St) (x1 x2 x3 x4 : Int32) : Pc (fX5_goOut cs cw cl cp x1 x2 x3 x4) (fun r => ∃ t, t ≤ 1 ∧ r.1 = I t ∧ all7 r.2.1 = all7 cs + I t ∧ Fs [7, 8] cs r.2.1) := by
  unfold fX5_goOut
  have none : ∀ cp', ∃ t, t ≤ 1 ∧ ((0 : Int32), cs, (cp' : St)).1 = I t ∧ all7 ((0 : Int32), cs, cp').2.1 = all7 cs + I t ∧ Fs [7, 8] cs ((0 : Int32), cs, cp').2.1 := by
    intro cp'
    refine ⟨0, by omega, rfl, ?_, Fs.refl _ _⟩
    show all7 cs = all7 cs + 0
    simp
  refine pc_bd pc_any fun q _ => pc_if (fun _ => pc_some (none _)) (fun _ => pc_ck fun _ => pc_if (fun _ => pc_ck fun _ => pc_bd (p_hand _ _ _) fun r hr => pc_some hr) (fun _ => pc_ck fun _ => pc_if (fun _ => pc_ck fun _ => pc_bd pc_any fun u _ => pc_if (fun _ => pc_bd pc_any fun v _ => pc_some (none _)) (fun _ => pc_bd pc_any fun v _ => pc_some (none _))) (fun _ => pc_some (none _))))
/-- floods counted: none above its bound, but at a closed port by one -/
def FlI (B : Nat → Nat) (cs ct : St) : Prop := ∀ k, k < 30 → ∃ q, cs 6 k = I q ∧ (q ≤ B k ∨ (q ≤ B k + 1 ∧ ct 6 k = I 0))
def SI (cw : St) (lim : Nat) (B : Nat → Nat) (cs ct cb : St) : Prop := XA cw ct ∧ XTab cw ct cb ∧ FlI B cs ct ∧ cs 9 0 = I lim
theorem FlI.ext {B : Nat → Nat} {cs cs' ct : St} (h : FlI B cs ct) (e : cs' 6 = cs 6) : FlI B cs' ct := by
  intro k hk
  rw [e]
  exact h k hk
theorem p_hear (cb : St) {p l g : Nat} (hp : p < 30) (h1 : 1 ≤ l) (hl : l ≤ 3) (hg : g < 10) (y : Int32) : Pc (fX2_hear cb (I p) (I l) (I g) y) (fun c => ∃ o, o < 30 ∧ (c 0 = cb 0 ∨ c 0 = upd (cb 0) (30 * (p / 5) + o) (I (p % 5)))) := by
  obtain ⟨o, eo⟩ : ∃ o, o = (l - 1) * 10 + g := ⟨_, rfl⟩
  have ho : o < 30 := by omega
  have ei : fX2_indexOf (I p / 5) (I l) (I g) = some (I (30 * (p / 5) + o)) := by
    unfold fX2_indexOf
    rw [div5 (by omega)]
    show some (I (p / 5) * I 30 + (I l - I 1) * I 10 + I g) = _
    rw [I_mul, I_sub h1, I_mul, I_add, I_add]
    congr 2
    omega
  unfold fX2_hear
  rw [ei, bd1]
  have j49 : ∀ c : St, c 0 = cb 0 → Pc (fX2_hear_J49 c (I p) y (I (30 * (p / 5) + o))) (fun c => ∃ o, o < 30 ∧ (c 0 = cb 0 ∨ c 0 = upd (cb 0) (30 * (p / 5) + o) (I (p % 5)))) := by
    intro c hc
    unfold fX2_hear_J49
    refine pc_ck fun _ => pc_ck fun _ => pc_some ⟨o, ho, Or.inr ?_⟩
    rw [aS_ne _ _ _ _ (by decide), aS_eq, I_nat (by omega), mod5 (by omega), hc]
  exact pc_ck fun _ => pc_if (fun _ => pc_ck fun _ => pc_if (fun _ => pc_ck fun _ => pc_ck fun _ => j49 _ (aS_ne _ _ _ _ (by decide))) (fun _ => pc_some ⟨o, ho, Or.inl rfl⟩)) (fun _ => j49 _ rfl)
theorem p_lane (ct cl : St) (x y : Int32) : Pc (fX5_laneLetIn ct cl x y) (fun r => ∃ k, k < 30 ∧ x = I k ∧ (ct 6 k = I 0 → r = I 0)) := by
  unfold fX5_laneLetIn
  refine pc_ck fun h => ?_
  obtain ⟨k, hk, rfl⟩ := in30 h
  rw [I_nat (by omega)]
  exact pc_if (fun _ => pc_some ⟨k, hk, rfl, fun _ => rfl⟩) (fun c => pc_bd pc_any fun q _ => pc_some ⟨k, hk, rfl, fun e => absurd e c⟩)
/-- how many times houses got it, by this step, and what it leaves -/
def Res (cw : St) (lim : Nat) (B : Nat → Nat) (cs ct cb : St) (r : Int32 × St × St × St × St) : Prop :=
  ∃ t, t ≤ 4 ∧ r.1 = I t ∧ all7 r.2.1 = all7 cs + I t ∧ (SI cw lim B cs ct cb → SI cw lim B r.2.1 r.2.2.1 r.2.2.2.1) ∧ Fs [6, 7, 8] cs r.2.1 ∧ Fs [5, 6, 7, 8] ct r.2.2.1
theorem p_floodLoop (cs cw ct cl cb cp : St) (x1 x2 x3 : Int32) {p : Nat} (hp : p < 30) : Pc (fX5_flood_L69 cw ct cl cb x1 x2 x3 (I p) (I (5 * (p / 5))) cs cp 0 (I (5 * (p / 5)))) (fun r => ∃ t, t ≤ 4 ∧ r.1 = I t ∧ all7 r.2.1 = all7 cs + I t ∧ Fs [7, 8] cs r.2.1 ∧ r.2.2.1 = ct ∧ r.2.2.2.1 = cb) := by
  unfold fX5_flood_L69
  refine pc_loop (fun a => ∃ j t, j ≤ 5 ∧ a.2.2.2 = I (5 * (p / 5) + j) ∧ a.2.2.1 = I t ∧ t + (if p < 5 * (p / 5) + j then 1 else 0) ≤ j ∧ all7 a.1 = all7 cs + I t ∧ Fs [7, 8] cs a.1) (fun rec hr a ha => ?_) _ _ ⟨0, 0, by omega, rfl, rfl, by rw [if_neg (by omega)]; omega, ?_, Fs.refl _ _⟩
  · obtain ⟨s, q, x, y⟩ := a
    obtain ⟨j, t, hj, e1, e2, h1, h2, h3⟩ := ha
    have e1 : y = I (5 * (p / 5) + j) := e1
    have e2 : x = I t := e2
    subst e1; subst e2
    dsimp only at h2 h3
    unfold fX5_flood_S69
    have eh : I (5 * (p / 5)) + 5 = I (5 * (p / 5) + 5) := I_add _ _
    refine pc_if (fun g => pc_some ?_) (fun g => pc_if (fun z => hr _ ?_) (fun z => pc_ck fun _ => pc_if (fun _ => hr _ ?_) (fun _ => pc_bd (p_out _ _ _ _ _ _ _ _) fun r hr0 => hr _ ?_)))
    · dsimp only at g
      rw [eh, I_le (by omega) (by omega)] at g
      have : j = 5 := by omega
      subst this
      rw [if_pos (by omega)] at h1
      exact ⟨t, by omega, rfl, h2, h3, rfl, rfl⟩
    · dsimp only at g z
      rw [eh, I_le (by omega) (by omega)] at g
      rw [I_inj (by omega) (by omega)] at z
      rw [if_neg (by omega)] at h1
      exact ⟨j + 1, t, by omega, I_add _ 1, rfl, by rw [if_pos (by omega)]; omega, h2, h3⟩
    · dsimp only at g z
      rw [eh, I_le (by omega) (by omega)] at g
      rw [I_inj (by omega) (by omega)] at z
      refine ⟨j + 1, t, by omega, I_add _ 1, rfl, ?_, h2, h3⟩
      by_cases w : p < 5 * (p / 5) + j
      · rw [if_pos w] at h1; rw [if_pos (by omega)]; omega
      · rw [if_neg w] at h1; rw [if_neg (by omega)]; omega
    · dsimp only at g z
      rw [eh, I_le (by omega) (by omega)] at g
      rw [I_inj (by omega) (by omega)] at z
      obtain ⟨u, hu, u1, u2, u3⟩ := hr0
      refine ⟨j + 1, t + u, by omega, I_add _ 1, ?_, ?_, ?_, h3.trans u3⟩
      · dsimp only
        rw [u1, I_add]
      · by_cases w : p < 5 * (p / 5) + j
        · rw [if_pos w] at h1; rw [if_pos (by omega)]; omega
        · rw [if_neg w] at h1; rw [if_neg (by omega)]; omega
      · dsimp only
        dsimp only at u2
        rw [u2, h2, Int32.add_assoc, I_add]
  · show all7 cs = all7 cs + 0
    simp
theorem p_flood {cw : St} {lim : Nat} {B : Nat → Nat} (cs ct cl cb cp : St) {i p : Nat} (hi : i < 400) (hp : p < 30) (ei : cp 0 i = I p) (hopen : ct 6 p ≠ I 0) (hlim : lim ≤ 100) (hB : ∀ k, lim ≤ B k ∧ B k ≤ 1000) (hb : ct 9 0 + 5 ≠ I 0) (x2 x3 : Int32) : Pc (fX5_flood cs cw ct cl cb cp (I i) x2 x3) (Res cw lim B cs ct cb) := by
  unfold fX5_flood
  rw [I_nat (by omega), ei, I_nat (by omega)]
  have e6 : aS cs 6 (I p) (cs 6 p + 1) 6 p = cs 6 p + 1 := by rw [aS_I _ _ (by omega), if_pos rfl]
  have ef : I p - (I p - I p / 5 * 5) = I (5 * (p / 5)) := by
    rw [mod5 (by omega), I_sub (by omega)]
    congr 1
    omega
  rw [e6, ef]
  refine pc_ck fun _ => pc_ck fun _ => pc_ck fun _ => pc_ck fun _ => pc_if (fun g => ?_) (fun g => ?_)
  · refine pc_mono (p_floodLoop _ cw ct cl cb cp _ x2 x3 hp) fun r hr => ?_
    obtain ⟨t, ht, r1, r2, r3, r4, r5⟩ := hr
    refine ⟨t, ht, r1, ?_, fun hs => ?_, (((Fs.refl _ _).aS (by decide) _ _).trans (r3.mono (by decide))), by rw [r4]; exact Fs.refl _ _⟩
    · rw [r2]
      unfold all7
      rw [aS_ne _ _ _ _ (by decide)]
    · obtain ⟨s1, s2, s3, s4⟩ := hs
      rw [r4, r5]
      refine ⟨s1, s2, fun k hk => ?_, by rw [r3 9 (by decide), aS_ne _ _ _ _ (by decide)]; exact s4⟩
      rw [r3 6 (by decide), aS_I _ _ (by omega)]
      by_cases e : k = p
      · subst e
        rw [if_pos rfl]
        obtain ⟨q, q1, q2⟩ := s3 k hk
        have hBk := hB k
        have q3 : q ≤ B k := by
          rcases q2 with q2 | q2
          · exact q2
          · exact absurd q2.2 hopen
        rw [q1, s4, show I q + 1 = I (q + 1) from I_add q 1, I_le (by omega) (by omega)] at g
        exact ⟨q + 1, by rw [q1]; exact I_add q 1, Or.inl (by omega)⟩
      · rw [if_neg e]; exact s3 k hk
  · unfold fX5_shutUntil
    refine pc_bd (Ψ := fun r => r.1 = aS (aS (aS (aS ct 5 (I p) (ct 9 0 + 5)) 6 (I p) (I 0)) 7 (I p) (I 0)) 8 (I p) (I 0) ∧ Less cb r.2 ∧ NoWay p r.2) (pc_bd (p_beginShut _ _ _) fun c hc => pc_bd (p_forget cb hp) fun d hd => pc_some ?_) fun r hr => pc_some ?_
    · obtain ⟨k, hk, ek, rfl⟩ := hc
      rw [I_inj (by omega) (by omega)] at ek
      subst ek
      exact ⟨rfl, hd.1, hd.2⟩
    · obtain ⟨c, d⟩ := r
      obtain ⟨e1, d1, d2⟩ := hr
      dsimp only at e1 d1 d2
      subst e1
      refine ⟨0, by omega, rfl, ?_, fun hs => ?_, (Fs.refl _ _).aS (by decide) _ _, ((((Fs.refl _ _).aS (by decide) _ _).aS (by decide) _ _).aS (by decide) _ _).aS (by decide) _ _⟩
      · show all7 (aS cs 6 (I p) (cs 6 p + 1)) = all7 cs + 0
        unfold all7
        rw [aS_ne _ _ _ _ (by decide)]
        simp
      · obtain ⟨s1, s2, s3, s4⟩ := hs
        refine ⟨s1.begin hp hb, fun j hj o ho => ?_, fun k hk => ?_, by dsimp only; rw [aS_ne _ _ _ _ (by decide)]; exact s4⟩
        · rcases d1 (30 * j + o) (by omega) with e | e
          · exact Or.inl e
          · dsimp only
            rw [e]
            rcases s2 j hj o ho with w | ⟨u, hu, w1, w2, w3⟩
            · exact Or.inl w
            · right
              refine ⟨u, hu, w1, w2, ?_⟩
              have ne : 5 * j + u ≠ p := by
                intro z
                have nw := d2 o ho
                rw [show p / 5 = j by omega, show p % 5 = u by omega, e] at nw
                exact nw w1
              simp (disch := omega) only [ck1, bd1, bx1, bx2, aS_at, iS_at, upd_at, ↓reduceIte, Nat.reduceEqDiff, Nat.reduceAdd, Nat.reduceMul, Nat.reduceSub, Nat.reduceDiv, Nat.reduceLT, Nat.reduceLeDiff, Nat.reduceBEq, ne_eq, not_true_eq_false, not_false_eq_true, reduceCtorEq, if_true, if_false, eq_self, Nat.add_zero, Nat.zero_add, lit, lit_nn, I_nat, I_add, I_mul, I_sub, I_div, inb_t, I_ne, I_nn, nn_I, nn_lt, nn_le, lt_nn, le_nn, I_t, I_f, I_lt_t, I_lt_f, isb_0, isb_1, vz_0, vz_1, nn_nat]
              rw [if_neg ne]
              exact w3
        · dsimp only
          rw [aS_I _ _ (by omega)]
          by_cases e : k = p
          · subst e
            rw [if_pos rfl]
            obtain ⟨q, q1, q2⟩ := s3 k hk
            refine ⟨q + 1, by rw [q1]; exact I_add q 1, Or.inr ⟨?_, ?_⟩⟩
            · rcases q2 with q2 | q2
              · omega
              · exact absurd q2.2 hopen
            · simp (disch := omega) only [ck1, bd1, bx1, bx2, aS_at, iS_at, upd_at, ↓reduceIte, Nat.reduceEqDiff, Nat.reduceAdd, Nat.reduceMul, Nat.reduceSub, Nat.reduceDiv, Nat.reduceLT, Nat.reduceLeDiff, Nat.reduceBEq, ne_eq, not_true_eq_false, not_false_eq_true, reduceCtorEq, if_true, if_false, eq_self, Nat.add_zero, Nat.zero_add, lit, lit_nn, I_nat, I_add, I_mul, I_sub, I_div, inb_t, I_ne, I_nn, nn_I, nn_lt, nn_le, lt_nn, le_nn, I_t, I_f, I_lt_t, I_lt_f, isb_0, isb_1, vz_0, vz_1, nn_nat]
          · rw [if_neg e]
            obtain ⟨q, q1, q2⟩ := s3 k hk
            refine ⟨q, q1, ?_⟩
            rcases q2 with q2 | q2
            · exact Or.inl q2
            · refine Or.inr ⟨q2.1, ?_⟩
              simp (disch := omega) only [ck1, bd1, bx1, bx2, aS_at, iS_at, upd_at, ↓reduceIte, Nat.reduceEqDiff, Nat.reduceAdd, Nat.reduceMul, Nat.reduceSub, Nat.reduceDiv, Nat.reduceLT, Nat.reduceLeDiff, Nat.reduceBEq, ne_eq, not_true_eq_false, not_false_eq_true, reduceCtorEq, if_true, if_false, eq_self, Nat.add_zero, Nat.zero_add, lit, lit_nn, I_nat, I_add, I_mul, I_sub, I_div, inb_t, I_ne, I_nn, nn_I, nn_lt, nn_le, lt_nn, le_nn, I_t, I_f, I_lt_t, I_lt_f, isb_0, isb_1, vz_0, vz_1, nn_nat]
              rw [if_neg e]
              exact q2.2

/-! ===== the cheapest ways, on both sides ===== -/
def WireC (cw : St) : Prop := ∀ k, k < 30 → cw 0 k = nn ∨ ∃ j c, j < 30 ∧ cw 0 k = I j ∧ cw 0 j = I k ∧ j / 5 ≠ k / 5 ∧ 1 ≤ c ∧ c ≤ 100 ∧ cw 1 k = I c ∧ cw 1 j = I c
def RankC (cw : St) : Prop := ∀ j, j < 6 → isI 16 (cw 5 j)
def pe (cw : St) (k : Nat) : Nat := (cw 0 k).toNatClampNeg
def cst (cw : St) (k : Nat) : Nat := (cw 1 k).toNatClampNeg
def nmq (cw : St) (j : Nat) : Nat := (cw 5 j).toNatClampNeg * 6 + j
def jn (cw ct : St) (k : Nat) : Bool := decide (cw 0 k ≠ nn ∧ ct 5 k = I 0 ∧ ct 5 (pe cw k) = I 0)
theorem jn_iff (cw ct : St) (k : Nat) : (jn cw ct k = true) = (cw 0 k ≠ nn ∧ ct 5 k = I 0 ∧ ct 5 (pe cw k) = I 0) := by
  unfold jn
  exact decide_eq_true_eq
theorem jn_ext {cw ct c : St} (h : c 5 = ct 5) (k : Nat) : jn cw c k = jn cw ct k := by unfold jn; rw [h]
theorem I_succ (k : Nat) : I k + 1 = I (k + 1) := I_add k 1
def rlx (cw ct : St) (d : Nat → Nat) (k : Nat) : Nat → Nat := fun u => if jn cw ct k ∧ u = pe cw k / 5 ∧ d (k / 5) + cst cw k < d u then d (k / 5) + cst cw k else d u
def wy (cw ct : St) (s : Nat) : Nat → Nat → Nat
  | 0 => fun u => if u = s then 0 else 100000
  | t + 1 => rlx cw ct (wy cw ct s t) (t % 30)
theorem wire_data {cw : St} (h : WireC cw) {k : Nat} (hk : k < 30) (e : cw 0 k ≠ nn) : pe cw k < 30 ∧ cw 0 k = I (pe cw k) ∧ 1 ≤ cst cw k ∧ cst cw k ≤ 100 ∧ cw 1 k = I (cst cw k) ∧ pe cw (pe cw k) = k ∧ cst cw (pe cw k) = cst cw k ∧ pe cw k / 5 ≠ k / 5 ∧ cw 0 (pe cw k) ≠ nn := by
  rcases h k hk with z | ⟨j, c, h1, h2, h3, h4, h5, h6, h7, h8⟩
  · exact absurd z e
  · have ej : pe cw k = j := by unfold pe; rw [h2, I_nat (by omega)]
    have ec : cst cw k = c := by unfold cst; rw [h7, I_nat (by omega)]
    have ej2 : pe cw j = k := by unfold pe; rw [h3, I_nat (by omega)]
    have ec2 : cst cw j = c := by unfold cst; rw [h8, I_nat (by omega)]
    rw [ej, ec, ej2, ec2]
    exact ⟨h1, h2, h5, h6, h7, rfl, rfl, h4, by rw [h3, ne_eq, I_nn (by omega)]; exact fun z => z⟩
/-- none so far, or at most 100 for each step -/
theorem wy_le (cw ct : St) (h : WireC cw) (s t : Nat) : ∀ u, wy cw ct s t u = 100000 ∨ wy cw ct s t u ≤ 100 * t := by
  induction t with
  | zero =>
    intro u
    show (if u = s then 0 else 100000) = 100000 ∨ (if u = s then 0 else 100000) ≤ 100 * 0
    by_cases e : u = s
    · rw [if_pos e]; omega
    · rw [if_neg e]; omega
  | succ t ih =>
    intro u
    show rlx cw ct (wy cw ct s t) (t % 30) u = 100000 ∨ rlx cw ct (wy cw ct s t) (t % 30) u ≤ 100 * (t + 1)
    unfold rlx
    have hk : t % 30 < 30 := Nat.mod_lt _ (by omega)
    by_cases c : jn cw ct (t % 30) ∧ u = pe cw (t % 30) / 5 ∧ wy cw ct s t (t % 30 / 5) + cst cw (t % 30) < wy cw ct s t u
    · rw [if_pos c]
      have w := wire_data h hk (Eq.mp (jn_iff _ _ _) c.1).1
      rcases ih (t % 30 / 5) with a | a
      · rcases ih u with b | b
        · have := c.2.2; omega
        · have := c.2.2; omega
      · omega
    · rw [if_neg c]
      rcases ih u with b | b
      · exact Or.inl b
      · exact Or.inr (by omega)
theorem wy_far (cw ct : St) (h : WireC cw) (s : Nat) {t : Nat} (ht : t ≤ 180) (u : Nat) : wy cw ct s t u ≤ 100000 := by
  rcases wy_le cw ct h s t u with e | e <;> omega
def WayC (d : Nat → Nat) (f : Nat → Int32) : Prop := ∀ u, u < 6 → (d u = 100000 ∧ f u = nn) ∨ (d u ≤ 18000 ∧ f u = I (d u))
def WayL (d : Nat → Nat) (f : Nat → Int32) : Prop := ∀ u, u < 6 → f u = I (d u)
theorem jn_eval {cw ct : St} (h : WireC cw) {k : Nat} (hk : k < 30) : fX3_isJoined ct cw (I k) = some (if jn cw ct k then I 1 else I 0) := by
  unfold fX3_isJoined
  rw [inb_t hk (by omega), ck1, I_nat (by omega)]
  by_cases e : cw 0 k = nn
  · rw [neg1, if_pos e, if_neg (fun z => (Eq.mp (jn_iff _ _ _) z).1 e)]; rfl
  · obtain ⟨w1, w2, -⟩ := wire_data h hk e
    rw [neg1, if_neg e, w2]
    by_cases a : ct 5 k = I 0
    · rw [isShut_t ct hk a, bd1, if_pos z00]
      by_cases b : ct 5 (pe cw k) = I 0
      · rw [isShut_t ct w1 b, bd1, if_pos z00, if_pos (Eq.mpr (jn_iff _ _ _) ⟨e, a, b⟩)]; rfl
      · rw [isShut_f ct w1 b, bd1, if_neg z10, if_neg (fun z => b (Eq.mp (jn_iff _ _ _) z).2.2)]; rfl
    · rw [isShut_f ct hk a, bd1, if_neg z10, if_neg (fun z => a (Eq.mp (jn_iff _ _ _) z).2.1)]; rfl
theorem port2b (cs ct : St) {p : Nat} (hp : p < 30) : fX5_port cs ct (I (p / 5)) (I (p % 5)) 2 = some (.inl (if ct 5 p = I 0 then I 0 else I 1)) := by
  obtain ⟨a, b⟩ := port2 cs ct hp
  by_cases e : ct 5 p = I 0
  · rw [a e, if_pos e]
  · rw [b e, if_neg e]
theorem bn1 {α β : Type} (a : α) (g : α → Option β) : bn (some (.inl a)) g = g a := rfl
theorem pass_eval {cs cw ct cg : St} (h : WireC cw) (ho : OneW cw) (hw : LawW cw cg) {k : Nat} (hk : k < 30) : fL_isPassable cs ct cg (I k) = some (if jn cw ct k then I 1 else I 0) := by
  unfold fL_isPassable
  rw [inb_t hk (by omega), ck1, ck1, ck1, ck1, I_nat (by omega)]
  rcases hw k hk with ⟨e, e2, e3⟩ | ⟨e, a, ha, e2, e3⟩ | ⟨e, e2, e3⟩
  · obtain ⟨w1, w2, -⟩ := wire_data h hk e
    rw [e2, w2, if_neg (show ¬ I (pe cw k) < 0 by rw [zeroI, I_f (by omega) (by omega)]; exact fun z => z), if_neg (show ¬ (100 : Int32) ≤ I (pe cw k) by rw [lit, I_lt_f (by omega) (by omega)]; exact fun z => z), mod5 (by omega), div5 (by omega), port2b cs ct hk, bn1, mod5 (by omega), div5 (by omega), port2b cs ct w1, bn1]
    by_cases a : ct 5 k = I 0
    · rw [if_pos a, if_pos z00]
      by_cases b : ct 5 (pe cw k) = I 0
      · rw [if_pos b, if_pos z00, if_pos (Eq.mpr (jn_iff _ _ _) ⟨e, a, b⟩)]; rfl
      · rw [if_neg b, if_neg z10, if_neg (fun z => b (Eq.mp (jn_iff _ _ _) z).2.2)]; rfl
    · rw [if_neg a, if_neg z10, if_neg (fun z => a (Eq.mp (jn_iff _ _ _) z).2.1)]; rfl
  · rw [e3, if_neg (show ¬ I (100 + a) < 0 by rw [zeroI, I_f (by omega) (by omega)]; exact fun z => z), if_pos (show (100 : Int32) ≤ I (100 + a) by rw [lit, I_lt_t (by omega) (by omega)]; trivial), if_neg (fun z => (Eq.mp (jn_iff _ _ _) z).1 e)]; rfl
  · rw [e3, if_pos (show nn < 0 by decide), if_neg (fun z => (Eq.mp (jn_iff _ _ _) z).1 e)]; rfl
/-- one step, the class's -/
theorem way_c {cw ct : St} (h : WireC cw) {s t k : Nat} (hk : k < 30) (ht : t < 180) (e : t % 30 = k) {f : Nat → Int32} (hf : WayC (wy cw ct s t) f) : ∃ f', WayC (wy cw ct s (t + 1)) f' ∧ ∀ (y : Int32) k32 rec, fX3_measureWays_S40 k32 rec cw y (pF ct 15 f) (I k) = rec (pF ct 15 f', I (k + 1)) := by
  have hq : ∀ u, wy cw ct s (t + 1) u = rlx cw ct (wy cw ct s t) k u := by intro u; show rlx cw ct (wy cw ct s t) (t % 30) u = _; rw [e]
  have f15 : pF ct 15 f 15 = f := by rw [pF_at, if_pos rfl]
  have j5 : ∀ q, q ≠ 15 → pF ct 15 f q = ct q := fun q hq => by rw [pF_at, if_neg hq]
  have je : fX3_isJoined (pF ct 15 f) cw (I k) = some (if jn cw ct k then I 1 else I 0) := by
    rw [jn_eval h hk, jn_ext (j5 5 (by decide))]
  have stay : (∀ u, wy cw ct s (t + 1) u = wy cw ct s t u) → WayC (wy cw ct s (t + 1)) f := by
    intro z u hu
    rw [z u]; exact hf u hu
  have i30 : ¬ (30 : Int32) ≤ I k := by rw [lit, I_lt_f (by omega) (by omega)]; exact fun z => z
  rcases hf (k / 5) (by omega) with ⟨d1, d2⟩ | ⟨d1, d2⟩
  · refine ⟨f, stay fun u => ?_, fun y k32 rec => ?_⟩
    · rw [hq]
      unfold rlx
      rw [if_neg]
      rintro ⟨z1, z2, z3⟩
      have := wy_far cw ct h s (show t ≤ 180 by omega) u
      omega
    · unfold fX3_measureWays_S40
      rw [if_neg i30, div5 (by omega), inb_t (show k / 5 < 6 by omega) (by omega), ck1, I_nat (by omega), f15, d2, if_pos neg1.symm, I_succ]
  · have dn : ¬ f (k / 5) = -1 := by rw [d2, neg1, I_nn (by omega)]; exact fun z => z
    by_cases j : jn cw ct k = true
    · obtain ⟨w1, w2, w3, w4, w5, -⟩ := wire_data h hk (Eq.mp (jn_iff _ _ _) j).1
      have add : I (wy cw ct s t (k / 5)) + I (cst cw k) = I (wy cw ct s t (k / 5) + cst cw k) := I_add _ _
      have sh : ∀ g, (fX3_shorten (pF ct 15 f) (I (pe cw k / 5)) (I (wy cw ct s t (k / 5) + cst cw k)) = some (pF ct 15 g)) → ∀ (y : Int32) k32 rec, fX3_measureWays_S40 k32 rec cw y (pF ct 15 f) (I k) = rec (pF ct 15 g, I (k + 1)) := by
        intro g hg y k32 rec
        unfold fX3_measureWays_S40
        rw [if_neg i30, div5 (by omega), inb_t (show k / 5 < 6 by omega) (by omega), ck1, ck1, I_nat (show k / 5 < 2147483648 by omega), f15, if_neg dn, je, if_pos j, bd1, if_neg z10, inb_t hk (by omega), ck1, ck1, I_nat (show k < 2147483648 by omega), w2, w5, div5 (by omega), d2, add, hg, bd1, I_succ]
      have le := wy_far cw ct h s (show t ≤ 180 by omega)
      by_cases c : wy cw ct s t (k / 5) + cst cw k < wy cw ct s t (pe cw k / 5)
      · have hd : ∀ u, wy cw ct s (t + 1) u = if u = pe cw k / 5 then wy cw ct s t (k / 5) + cst cw k else wy cw ct s t u := by
          intro u
          rw [hq]
          unfold rlx
          by_cases v : u = pe cw k / 5
          · rw [if_pos v, if_pos ⟨j, v, by rw [v]; exact c⟩]
          · rw [if_neg v, if_neg (fun z => v z.2.1)]
        have b18 : wy cw ct s t (k / 5) + cst cw k ≤ 18000 := by
          rcases wy_le cw ct h s t (k / 5) with z | z <;> omega
        refine ⟨upd f (pe cw k / 5) (I (wy cw ct s t (k / 5) + cst cw k)), fun u hu => ?_, sh _ ?_⟩
        · rw [hd, upd_at]
          by_cases v : u = pe cw k / 5
          · rw [if_pos v, if_pos v]; exact Or.inr ⟨b18, rfl⟩
          · rw [if_neg v, if_neg v]; exact hf u hu
        · unfold fX3_shorten fX3_shorten_J20
          rw [inb_t (show pe cw k / 5 < 6 by omega) (by omega), ck1, ck1, ck1, I_nat (by omega), f15]
          have end_ : aS (pF ct 15 f) 15 (I (pe cw k / 5)) (I (wy cw ct s t (k / 5) + cst cw k)) = pF ct 15 (upd f (pe cw k / 5) (I (wy cw ct s t (k / 5) + cst cw k))) := by
            rw [aS_pF, I_nat (by omega)]
          rw [end_]
          rcases hf (pe cw k / 5) (by omega) with ⟨x1, x2⟩ | ⟨x1, x2⟩
          · rw [x2, if_pos neg1.symm]
          · rw [x2, if_neg (by rw [neg1, I_nn (by omega)]; exact fun z => z), if_neg (by rw [I_lt_f (by omega) (by omega)]; exact fun z => z)]
      · have hd : ∀ u, wy cw ct s (t + 1) u = wy cw ct s t u := by
          intro u
          rw [hq]
          unfold rlx
          rw [if_neg]
          rintro ⟨z1, z2, z3⟩
          subst z2
          exact c z3
        refine ⟨f, stay hd, sh _ ?_⟩
        unfold fX3_shorten
        rw [inb_t (show pe cw k / 5 < 6 by omega) (by omega), ck1, ck1, I_nat (by omega), f15]
        rcases hf (pe cw k / 5) (by omega) with ⟨x1, x2⟩ | ⟨x1, x2⟩
        · rcases wy_le cw ct h s t (k / 5) with z | z <;> omega
        · rw [x2, if_neg (by rw [neg1, I_nn (by omega)]; exact fun z => z), if_pos (by rw [I_lt_t (by omega) (by omega)]; trivial)]
    · refine ⟨f, stay fun u => ?_, fun y k32 rec => ?_⟩
      · rw [hq]
        unfold rlx
        rw [if_neg (fun z => j z.1)]
      · unfold fX3_measureWays_S40
        rw [if_neg i30, div5 (by omega), inb_t (show k / 5 < 6 by omega) (by omega), ck1, I_nat (show k / 5 < 2147483648 by omega), f15, if_neg dn, je, if_neg j, bd1, if_pos z00, I_succ]

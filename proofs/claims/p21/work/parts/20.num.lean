/-! ===== numbers: the ints that stand for small naturals, and -1 ===== -/
def I (k : Nat) : Int32 := Int32.ofNat k
def nn : Int32 := -1
theorem lit (n : Nat) : (OfNat.ofNat n : Int32) = I (@OfNat.ofNat Nat n (instOfNatNat n)) := rfl
theorem lit_nn : -(I 1) = nn := rfl
theorem I_nat {k : Nat} (h : k < 2147483648) : (I k).toNatClampNeg = k := Int32.toNatClampNeg_ofNat_of_lt h
theorem I_int {k : Nat} (h : k < 2147483648) : (I k).toInt = (k : Int) := Int32.toInt_ofNat_of_lt h
theorem nn_int : nn.toInt = -1 := by decide
theorem nn_nat : nn.toNatClampNeg = 0 := by decide
theorem I_inj {a b : Nat} (ha : a < 2147483648) (hb : b < 2147483648) : (I a = I b) = (a = b) := by
  apply propext
  constructor
  · intro h
    have := congrArg Int32.toNatClampNeg h
    rwa [I_nat ha, I_nat hb] at this
  · intro h; rw [h]
theorem I_ne {a b : Nat} (ha : a < 2147483648) (hb : b < 2147483648) (h : a ≠ b) : (I a = I b) = False := by
  rw [I_inj ha hb]; exact eq_false h
theorem I_lt {a b : Nat} (ha : a < 2147483648) (hb : b < 2147483648) : (I a < I b) = (a < b) := by
  apply propext
  rw [Int32.lt_iff_toInt_lt, I_int ha, I_int hb]
  omega
theorem I_le {a b : Nat} (ha : a < 2147483648) (hb : b < 2147483648) : (I a ≤ I b) = (a ≤ b) := by
  apply propext
  rw [Int32.le_iff_toInt_le, I_int ha, I_int hb]
  omega
theorem I_add (a b : Nat) : I a + I b = I (a + b) := (Int32.ofNat_add a b).symm
theorem I_mul (a b : Nat) : I a * I b = I (a * b) := (Int32.ofNat_mul a b).symm
theorem I_sub {a b : Nat} (h : b ≤ a) : I a - I b = I (a - b) := (Int32.ofNat_sub a b h).symm
theorem I_div {a b : Nat} (ha : a < 2147483648) (hb : b < 2147483648) : I a / I b = I (a / b) := (Int32.ofNat_div ha hb).symm
theorem I_nn {k : Nat} (h : k < 2147483648) : (I k = nn) = False := by
  apply eq_false
  intro e
  have := congrArg Int32.toInt e
  rw [I_int h, nn_int] at this
  omega
theorem nn_I {k : Nat} (h : k < 2147483648) : (nn = I k) = False := by
  apply eq_false
  intro e
  have := congrArg Int32.toInt e
  rw [I_int h, nn_int] at this
  omega
theorem nn_lt {k : Nat} (h : k < 2147483648) : (nn < I k) = True := by
  apply eq_true
  rw [Int32.lt_iff_toInt_lt, I_int h, nn_int]
  omega
theorem nn_le {k : Nat} (h : k < 2147483648) : (nn ≤ I k) = True := by
  apply eq_true
  rw [Int32.le_iff_toInt_le, I_int h, nn_int]
  omega
theorem lt_nn {k : Nat} (h : k < 2147483648) : (I k < nn) = False := by
  apply eq_false
  rw [Int32.lt_iff_toInt_lt, I_int h, nn_int]
  omega
theorem le_nn {k : Nat} (h : k < 2147483648) : (I k ≤ nn) = False := by
  apply eq_false
  rw [Int32.le_iff_toInt_le, I_int h, nn_int]
  omega
theorem I_t {a b : Nat} (h : a < b) (hb : b < 2147483648) : (I a < I b) = True := by rw [I_lt (by omega) hb]; exact eq_true h
theorem I_f {a b : Nat} (h : b ≤ a) (ha : a < 2147483648) : (I a < I b) = False := by rw [I_lt ha (by omega)]; exact eq_false (by omega)
theorem I_lt_t {a b : Nat} (h : a ≤ b) (hb : b < 2147483648) : (I a ≤ I b) = True := by rw [I_le (by omega) hb]; exact eq_true h
theorem I_lt_f {a b : Nat} (h : b < a) (ha : a < 2147483648) : (I a ≤ I b) = False := by rw [I_le ha (by omega)]; exact eq_false (by omega)
theorem inb_t {k n : Nat} (h : k < n) (hn : n ≤ 2147483648) : inb (I k) n = true := by
  unfold inb
  have h1 : ¬ (I k < 0) := by
    show ¬ (I k < I 0)
    rw [I_lt (by omega) (by omega)]; omega
  rw [I_nat (by omega)]
  simp [h1, h]
theorem isb_0 : isb (I 0) = true := by decide
theorem isb_1 : isb (I 1) = true := by decide
theorem vz_0 : vp_nar .boolean (I 0) = I 0 := by decide
theorem vz_1 : vp_nar .boolean (I 1) = I 1 := by decide
/-- a number of the naturals from a to below n -/
def inD (x : Int32) (a n : Nat) : Prop := ∃ k, a ≤ k ∧ k < n ∧ x = I k
theorem inD_iff {x : Int32} {a b : Nat} (hb : b < 2147483647) : (¬ x < I a ∧ ¬ I b < x) ↔ (inD x a (b + 1) ∧ True) ∨ (¬ x < I a ∧ ¬ I b < x ∧ 2147483647 ≤ a) := by
  by_cases ha : a < 2147483647
  · constructor
    · intro ⟨h1, h2⟩
      left
      refine ⟨⟨x.toNatClampNeg, ?_⟩, trivial⟩
      rw [Int32.lt_iff_toInt_lt, I_int (by omega)] at h1 h2
      have h0 : 0 ≤ x := by
        rw [Int32.le_iff_toInt_le]
        show (I 0).toInt ≤ _
        rw [I_int (by omega)]
        omega
      have hx : x = I x.toNatClampNeg := (Int32.ofNat_toNatClampNeg x h0).symm
      have hl := Int32.toNatClampNeg_lt x
      have hi : x.toInt = (x.toNatClampNeg : Int) := by
        have := congrArg Int32.toInt hx
        rw [I_int (by omega)] at this
        exact this
      exact ⟨by omega, by omega, hx⟩
    · intro h
      rcases h with ⟨⟨k, h1, h2, rfl⟩, -⟩ | ⟨h1, h2, -⟩
      · rw [I_lt (by omega) (by omega), I_lt (by omega) (by omega)]; omega
      · exact ⟨h1, h2⟩
  · constructor
    · intro h; right; exact ⟨h.1, h.2, by omega⟩
    · intro h
      rcases h with ⟨⟨k, h1, h2, rfl⟩, -⟩ | ⟨h1, h2, -⟩
      · omega
      · exact ⟨h1, h2⟩
theorem inD_of {x : Int32} {a b : Nat} (ha : a < 2147483647) (hb : b < 2147483647) (h1 : ¬ x < I a) (h2 : ¬ I b < x) : inD x a (b + 1) := by
  rcases (inD_iff hb).mp ⟨h1, h2⟩ with h | h
  · exact h.1
  · omega
theorem inD_to {x : Int32} {a b : Nat} (hb : b < 2147483647) (h : inD x a (b + 1)) : ¬ x < I a ∧ ¬ I b < x := (inD_iff hb).mpr (Or.inl ⟨h, trivial⟩)
/-! ===== steps of the functional texts ===== -/
theorem ck1 {α : Type} (x : Option α) : ck true x = x := rfl
theorem bd1 {α β : Type} (a : α) (g : α → Option β) : bd (some a) g = g a := rfl
theorem bx1 {α β : Type} (a : α) (g : α → Option (β ⊕ Nat)) : bx (some (.inl a)) g = g a := rfl
theorem bx2 {α β : Type} (k : Nat) (g : α → Option (β ⊕ Nat)) : bx (some (.inr k)) g = some (.inr k) := rfl
theorem hx1 {α β : Type} (a : α) (g : α → Option β) (h : Nat → Option β) : hxb (some (.inl a)) g h = g a := rfl
theorem hx2 {α β : Type} (k : Nat) (g : α → Option β) (h : Nat → Option β) : hxb (some (.inr k)) g h = h k := rfl
theorem pF_at (σ : St) (k : Nat) (h : Nat → Int32) (j : Nat) : pF σ k h j = if j = k then h else σ j := by
  unfold pF
  by_cases e : j = k
  · subst e; simp
  · have : Nat.beq j k = false := by
      cases hb : Nat.beq j k with
      | false => rfl
      | true => exact absurd (Nat.eq_of_beq_eq_true hb) e
    rw [this, if_neg e]; rfl
theorem aS_at (σ : St) (k : Nat) (i x : Int32) (j : Nat) : aS σ k i x j = if j = k then upd (σ k) i.toNatClampNeg x else σ j := pF_at ..
theorem iS_at (σ : St) (k : Nat) (x : Int32) (j : Nat) : iS σ k x j = if j = k then (fun _ => x) else σ j := pF_at ..
theorem upd_at (f : Nat → Int32) (k : Nat) (x : Int32) (j : Nat) : upd f k x j = if j = k then x else f j := rfl
/-- a loop that counts up: from an invariant at k to one at N, then out -/
theorem loop_up {α β σ : Type} {step : (α → Option β) → α → Option β} (emb : Nat → σ → α) (N : Nat) (P : Nat → σ → Prop) (ex : σ → Option β)
    (hb : ∀ k s, k < N → P k s → ∃ s', P (k + 1) s' ∧ ∀ rec, step rec (emb k s) = rec (emb (k + 1) s'))
    (he : ∀ s, P N s → ∀ rec, step rec (emb N s) = ex s) :
    ∀ d k s n, k + d = N → d < n → P k s → ∃ s', P N s' ∧ loopN step n (emb k s) = ex s' := by
  intro d
  induction d with
  | zero =>
    intro k s n hk hn hP
    have e : k = N := by omega
    subst e
    obtain ⟨m, rfl⟩ : ∃ m, n = m + 1 := ⟨n - 1, by omega⟩
    exact ⟨s, hP, he s hP _⟩
  | succ d ih =>
    intro k s n hk hn hP
    obtain ⟨m, rfl⟩ : ∃ m, n = m + 1 := ⟨n - 1, by omega⟩
    obtain ⟨s', hP', hs⟩ := hb k s (by omega) hP
    obtain ⟨s2, h2, h3⟩ := ih (k + 1) s' m (by omega) (by omega) hP'
    exact ⟨s2, h2, (hs _).trans h3⟩

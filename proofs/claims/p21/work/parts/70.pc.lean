/-! ===== what a text answers, if it answers ===== -/
def Pc {β : Type} (x : Option β) (Φ : β → Prop) : Prop := ∀ r, x = some r → Φ r
theorem pc_some {β : Type} {r : β} {Φ : β → Prop} (h : Φ r) : Pc (some r) Φ := by
  intro q e
  cases e
  exact h
theorem pc_ck {β : Type} {b : Bool} {x : Option β} {Φ : β → Prop} (h : b = true → Pc x Φ) : Pc (ck b x) Φ := by
  intro q e
  cases b with
  | true => exact h rfl q e
  | false => cases e
theorem pc_bd {α β : Type} {x : Option α} {g : α → Option β} {Ψ : α → Prop} {Φ : β → Prop} (h : Pc x Ψ) (k : ∀ a, Ψ a → Pc (g a) Φ) : Pc (bd x g) Φ := by
  intro q e
  cases hx : x with
  | none => rw [hx] at e; cases e
  | some a => rw [hx] at e; exact k a (h a hx) q e
theorem pc_bx {α β : Type} {x : Option (α ⊕ Nat)} {g : α → Option (β ⊕ Nat)} {Ψ : α → Prop} {Φ : β ⊕ Nat → Prop} (h : Pc x (fun r => ∀ a, r = .inl a → Ψ a)) (h2 : ∀ k, Φ (.inr k)) (k : ∀ a, Ψ a → Pc (g a) Φ) : Pc (bx x g) Φ := by
  intro q e
  cases hx : x with
  | none => rw [hx] at e; cases e
  | some a =>
    rw [hx] at e
    cases a with
    | inl a => exact k a (h _ hx a rfl) q e
    | inr j => cases e; exact h2 j
theorem pc_if {β : Type} {c : Prop} {d : Decidable c} {x y : Option β} {Φ : β → Prop} (a : c → Pc x Φ) (b : ¬ c → Pc y Φ) : Pc (@ite _ c d x y) Φ := by
  by_cases h : c
  · rw [if_pos h]; exact a h
  · rw [if_neg h]; exact b h
theorem pc_loop {α β : Type} {step : (α → Option β) → α → Option β} {Φ : β → Prop} (J : α → Prop) (h : ∀ rec : α → Option β, (∀ a, J a → Pc (rec a) Φ) → ∀ a, J a → Pc (step rec a) Φ) : ∀ (n : Nat) (a : α), J a → Pc (loopN step n a) Φ := by
  intro n
  induction n with
  | zero => intro a _ r e; cases e
  | succ n ih => intro a ha; exact h _ ih a ha
theorem pc_mono {β : Type} {x : Option β} {Ψ Φ : β → Prop} (h : Pc x Ψ) (k : ∀ a, Ψ a → Φ a) : Pc x Φ := fun r e => k r (h r e)
theorem pc_and {β : Type} {x : Option β} {Ψ Φ : β → Prop} (h : Pc x Ψ) (k : Pc x Φ) : Pc x (fun r => Ψ r ∧ Φ r) := fun r e => ⟨h r e, k r e⟩
theorem pc_any {β : Type} {x : Option β} : Pc x (fun _ => True) := fun _ _ => trivial
theorem in_I {x : Int32} {n : Nat} (hn : n ≤ 2147483648) (h : inb x n = true) : ∃ k, k < n ∧ x = I k := by
  unfold inb at h
  simp at h
  obtain ⟨h1, h2⟩ := h
  have h0 : 0 ≤ x := by
    rw [Int32.le_iff_toInt_le]
    rw [Int32.le_iff_toInt_le] at h1
    exact h1
  exact ⟨x.toNatClampNeg, h2, (Int32.ofNat_toNatClampNeg x h0).symm⟩
theorem in30 {x : Int32} (h : inb x 30 = true) : ∃ k, k < 30 ∧ x = I k := in_I (by omega) h
theorem in6 {x : Int32} (h : inb x 6 = true) : ∃ k, k < 6 ∧ x = I k := in_I (by omega) h
theorem in180 {x : Int32} (h : inb x 180 = true) : ∃ k, k < 180 ∧ x = I k := in_I (by omega) h
theorem in10 {x : Int32} (h : inb x 10 = true) : ∃ k, k < 10 ∧ x = I k := in_I (by omega) h
theorem in400 {x : Int32} (h : inb x 400 = true) : ∃ k, k < 400 ∧ x = I k := in_I (by omega) h
theorem aS_ne (σ : St) (k : Nat) (i x : Int32) {j : Nat} (h : j ≠ k) : aS σ k i x j = σ j := by rw [aS_at, if_neg h]
theorem aS_eq (σ : St) (k : Nat) (i x : Int32) : aS σ k i x k = upd (σ k) i.toNatClampNeg x := by rw [aS_at, if_pos rfl]
theorem iS_ne (σ : St) (k : Nat) (x : Int32) {j : Nat} (h : j ≠ k) : iS σ k x j = σ j := by rw [iS_at, if_neg h]
theorem aS_I (σ : St) (k : Nat) {i : Nat} (hi : i < 2147483648) (x : Int32) (j : Nat) : aS σ k (I i) x k j = if j = i then x else σ k j := by rw [aS_eq, I_nat hi, upd_at]
theorem mod5 {k : Nat} (hk : k < 2147483648) : I k - I k / 5 * 5 = I (k % 5) := by
  show I k - I k / I 5 * I 5 = _
  rw [I_div hk (by omega), I_mul, I_sub (by omega)]
  congr 1
  omega
theorem div5 {k : Nat} (hk : k < 2147483648) : I k / 5 = I (k / 5) := by
  show I k / I 5 = _
  exact I_div hk (by omega)
theorem neg1 : (-1 : Int32) = nn := rfl
theorem zeroI : (0 : Int32) = I 0 := rfl

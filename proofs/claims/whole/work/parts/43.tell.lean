def p3 (σ : St) (a b c : Nat) (f g h : Nat → Int32) : St := pF (pF (pF σ a f) b g) c h
theorem p3_a (σ : St) {a b c : Nat} (f g h : Nat → Int32) (i x : Int32) (h1 : a ≠ b) (h2 : a ≠ c) : aS (p3 σ a b c f g h) a i x = p3 σ a b c (upd f i.toNatClampNeg x) g h := by
  funext j
  simp only [p3, aS_at, pF_at]
  by_cases d : j = a
  · subst d; simp only [h1, h2, ↓reduceIte]
  · simp only [d, ↓reduceIte]
theorem p3_b (σ : St) {a b c : Nat} (f g h : Nat → Int32) (i x : Int32) (h2 : b ≠ c) : aS (p3 σ a b c f g h) b i x = p3 σ a b c f (upd g i.toNatClampNeg x) h := by
  funext j
  simp only [p3, aS_at, pF_at]
  by_cases d : j = b
  · subst d; simp only [h2, ↓reduceIte]
  · simp only [d, ↓reduceIte]
theorem p3_c (σ : St) {a b c : Nat} (f g h : Nat → Int32) (i x : Int32) : aS (p3 σ a b c f g h) c i x = p3 σ a b c f g (upd h i.toNatClampNeg x) := by
  funext j
  simp only [p3, aS_at, pF_at]
  by_cases d : j = c
  · subst d; simp only [↓reduceIte]
  · simp only [d, ↓reduceIte]
/-- what comes in on a port, on both sides -/
def Told (wi f10 f11 f12 g20 g21 g22 : Nat → Int32) (x : Nat) : Prop := (f10 x = nn ∧ g20 x = nn) ∨ ∃ j r c e, j < 30 ∧ wi x = I j ∧ r < 6 ∧ c ≤ 700 ∧ e ≤ 7 ∧ f10 x = I r ∧ g20 x = I r ∧ f11 x = I c ∧ g21 x = I c ∧ f12 x = I e ∧ g22 x = I e

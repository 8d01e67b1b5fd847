/-! ===== what holds between calls of the law ===== -/
theorem modN (a m : Nat) : a - a / m * m = a % m := by
  have h : m * (a / m) + a % m = a := Nat.div_add_mod a m
  rw [Nat.mul_comm] at h
  omega
theorem divN (a m : Nat) : a / m * m + a % m = a := by
  rw [Nat.mul_comm]
  exact Nat.div_add_mod a m
def LawW (cw cg : St) : Prop := ∀ k, k < 30 → (cw 0 k ≠ nn ∧ cg 0 k = cw 0 k ∧ cg 1 k = cw 1 k) ∨ (cw 0 k = nn ∧ ∃ a, a < 10 ∧ cw 2 k = I a ∧ cg 0 k = I (100 + a)) ∨ (cw 0 k = nn ∧ cw 2 k = nn ∧ cg 0 k = nn)
def LawH (cw cg : St) : Prop := ∀ g, g < 10 → cg 2 g = cw 4 g
def LawK (cw cg : St) : Prop := ∀ j, j < 6 → cg 3 j = cw 5 j
def LawG (cs cw ct cg : St) : Prop := cg 4 0 = cw 6 0 ∧ cg 4 1 = cw 7 0 ∧ cg 4 2 = ct 9 0 ∧ cg 4 5 = cs 9 0 ∧ cg 4 4 = all7 cs ∧ (cg 4 3 = I 0 ∨ (cg 4 3 = I 1 ∧ ∀ k, k < 30 → cw 3 k = I 0))
def CI (n : Nat) (cs cw ct cb : St) : Prop := XA cw ct ∧ XTab cw ct cb ∧ Selves ct ∧ ∀ k, k < 30 → ∃ q, cs 6 k = I q ∧ q ≤ 101 + n
def LInv (N n : Nat) (cs cw ct cl cb cg : St) : Prop := (∃ mm, Rel N cs cw ct cl cb mm) ∧ CI n cs cw ct cb ∧ LawW cw cg ∧ LawH cw cg ∧ LawK cw cg ∧ LawG cs cw ct cg
theorem rel_wire {N : Nat} {cs cw ct cl cb mm : St} (h : Rel N cs cw ct cl cb mm) {k : Nat} (hk : k < 30) : cw 0 k = nn ∨ ∃ j c, j < 30 ∧ cw 0 k = I j ∧ cw 0 j = I k ∧ j / 5 ≠ k / 5 ∧ 1 ≤ c ∧ c ≤ 100 ∧ cw 1 k = I c ∧ cw 1 j = I c := by
  have w := h.2.2.2.2.2.2.2.2.2.2.1
  rcases h.2.1 k hk with e | ⟨j, c, h1, h2, h3, h4, h5, h6, h7, h8⟩
  · left; rw [(w k hk).1, e]
  · right
    exact ⟨j, c, h1, by rw [(w k hk).1, h2], by rw [(w j h1).1, h3], h4, h5, h6, by rw [(w k hk).2.1, h7], by rw [(w j h1).2.1, h8]⟩
theorem rel_house {N : Nat} {cs cw ct cl cb mm : St} (h : Rel N cs cw ct cl cb mm) {k : Nat} (hk : k < 30) : cw 2 k = nn ∨ (cw 0 k = nn ∧ isI 10 (cw 2 k)) := by
  have w := h.2.2.2.2.2.2.2.2.2.2.1 k hk
  rw [w.1, w.2.2.1]
  exact h.2.2.1.1 k hk
theorem rel_one {N : Nat} {cs cw ct cl cb mm : St} (h : Rel N cs cw ct cl cb mm) : OneW cw := by
  intro k hk e
  rcases rel_house h hk with z | z
  · exact z
  · exact absurd z.1 e
theorem rel_sp {N : Nat} {cs cw ct cl cb mm : St} (h : Rel N cs cw ct cl cb mm) {g : Nat} (hg : g < 10) : (cw 4 g = nn ∧ ∀ k, k < 30 → cw 2 k ≠ I g) ∨ ∃ k, k < 30 ∧ cw 4 g = I k ∧ cw 2 k = I g := by
  have w := h.2.2.2.2.2.2.2.2.2.2.1
  rcases h.2.2.2.2.2.2.2.2.2.2.2.1 g hg with ⟨e, f⟩ | ⟨k, hk, e, f⟩
  · exact Or.inl ⟨e, fun k hk => by rw [(w k hk).2.2.1]; exact f k hk⟩
  · exact Or.inr ⟨k, hk, e, by rw [(w k hk).2.2.1]; exact f⟩
theorem rel_rank {N : Nat} {cs cw ct cl cb mm : St} (h : Rel N cs cw ct cl cb mm) {j : Nat} (hj : j < 6) : isI 16 (cw 5 j) := by
  rw [h.2.2.2.2.2.2.2.2.2.1 j hj]
  exact h.1 j hj
theorem rel_guard {N : Nat} {cs cw ct cl cb mm : St} (h : Rel N cs cw ct cl cb mm) {k : Nat} (hk : k < 30) : isI 3 (cw 3 k) := by
  rw [(h.2.2.2.2.2.2.2.2.2.2.1 k hk).2.2.2]
  exact h.2.2.2.1 k hk
theorem rel_now {N : Nat} {cs cw ct cl cb mm : St} (h : Rel N cs cw ct cl cb mm) : (∃ n, n ≤ N ∧ n ≤ 100000 ∧ ct 9 0 = I n) ∧ ∃ q, 1 ≤ q ∧ q ≤ 100 ∧ cs 9 0 = I q := by
  obtain ⟨h0, ⟨n, h1, h2⟩, ⟨q, h3, h4, h5⟩⟩ := h.2.2.2.2.2.1
  obtain ⟨e1, e2⟩ := h.2.2.2.2.2.2.2.2.2.2.2.2.2.2.2.2.1
  exact ⟨⟨n, h1, by omega, by rw [e1, h2]⟩, ⟨q, h3, h4, by rw [e2, h5]⟩⟩
theorem CI.mono {n m : Nat} {cs cw ct cb : St} (h : CI n cs cw ct cb) (hn : n ≤ m) : CI m cs cw ct cb := by
  obtain ⟨h1, h2, h3, h4⟩ := h
  refine ⟨h1, h2, h3, fun k hk => ?_⟩
  obtain ⟨q, q1, q2⟩ := h4 k hk
  exact ⟨q, q1, by omega⟩
theorem LInv.mono {N n m : Nat} {cs cw ct cl cb cg : St} (h : LInv N n cs cw ct cl cb cg) (hn : n ≤ m) : LInv N m cs cw ct cl cb cg := by
  obtain ⟨h1, h2, h3⟩ := h
  exact ⟨h1, h2.mono hn, h3⟩
/-- the law's row at a port: none, or a wire's other end, or a house -/
theorem LInv.at {N n : Nat} {cs cw ct cl cb cg : St} (h : LInv N n cs cw ct cl cb cg) {k : Nat} (hk : k < 30) : (cg 0 k = nn ∧ cw 0 k = nn ∧ cw 2 k = nn) ∨ (∃ j c, j < 30 ∧ cg 0 k = I j ∧ cw 0 k = I j ∧ cw 2 k = nn ∧ cw 0 j = I k ∧ cg 0 j = I k ∧ j / 5 ≠ k / 5 ∧ 1 ≤ c ∧ c ≤ 100 ∧ cg 1 k = I c ∧ cw 1 k = I c ∧ cw 1 j = I c) ∨ (∃ a, a < 10 ∧ cg 0 k = I (100 + a) ∧ cw 2 k = I a ∧ cw 0 k = nn) := by
  obtain ⟨⟨mm, hr⟩, -, hw, -⟩ := h
  rcases hw k hk with ⟨e1, e2, e3⟩ | ⟨e1, a, e2, e3, e4⟩ | ⟨e1, e2, e3⟩
  · right; left
    rcases rel_wire hr hk with z | ⟨j, c, h1, h2, h3, h4, h5, h6, h7, h8⟩
    · exact absurd z e1
    · refine ⟨j, c, h1, by rw [e2, h2], h2, rel_one hr k hk e1, h3, ?_, h4, h5, h6, by rw [e3, h7], h7, h8⟩
      rcases hw j h1 with ⟨f1, f2, f3⟩ | ⟨f1, -⟩ | ⟨f1, -⟩
      · rw [f2, h3]
      · rw [h3, I_nn (by omega)] at f1; cases f1
      · rw [h3, I_nn (by omega)] at f1; cases f1
  · exact Or.inr (Or.inr ⟨a, e2, e4, e3, e1⟩)
  · exact Or.inl ⟨e3, e1, e2⟩
/-! ===== the law's calls: 'does' ===== -/
def xc (k : Nat) : Int32 := if k = 1 then -3000 else if k = 2 then -2000 else -1000
theorem hxd {α : Type} {k : Nat} (hk : k = 1 ∨ k = 2 ∨ k = 3) (f : Int32 → α) : (if k = 1 then some (f (-3000)) else if k = 2 then some (f (-2000)) else if k = 3 then some (f (-1000)) else none) = some (f (xc k)) := by
  rcases hk with rfl | rfl | rfl <;> rfl

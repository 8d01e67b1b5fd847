/-! ===== the law's own methods ===== -/
def bn {α β : Type} (x : Option (α ⊕ Nat)) (g : α → Option β) : Option β := match x with
  | some (.inl a) => g a
  | _ => none
theorem bn_t {α β : Type} {x : Option (α ⊕ Nat)} {g : α → Option β} {r : β} (h : bn x g = some r) : ∃ a, x = some (.inl a) ∧ g a = some r := by
  cases x with
  | none => cases h
  | some a =>
    cases a with
    | inl a => exact ⟨a, rfl, h⟩
    | inr k => cases h
theorem loop_indF {α β : Type} {step : (α → Option β) → α → Option β} {res : β} (F : Nat) (P : Nat → α → Prop) (h : ∀ n, n + 1 ≤ F → ∀ k : α → Option β, (∀ a, k a = some res → P n a) → ∀ a, step k a = some res → P (n + 1) a) : ∀ (n : Nat), n ≤ F → ∀ (a : α), loopN step n a = some res → P n a := by
  intro n
  induction n with
  | zero => intro _ a ha; cases ha
  | succ n ih => intro hn a ha; exact h n hn _ (fun a h9 => ih (by omega) a h9) a ha
theorem mkW {l : Launch} {y : MethodName} {wsy ws' : List Cond} {rm : Room} {cc : ByteArray} {maxL : Nat} {hh : List (Nat × Nat × Nat × Nat)} {D : va_G} {tys : List (ClassId × FieldType)} {av : List Value} {W0 W1 : va_W} {sz : Nat} {r : Int32} {mc ms : Nat}
    (hy : plainName y.cls = true) (hw : wsy = Cond.codeWith y cc maxL (some .int) hh :: ws') (hown : y.cls = RL) (hsl : (lg_sl av).length ≤ maxL)
    (body : ∀ (p : Program) (e : Env) (s : State) (m : MethodId) (args : Array Value) (below : List Frame) (meth : Method) (c : Code) (A : Nat → Prop) (Q : State → Prop), CallFix p m c cc maxL s args wsy RL → va_K D vwCl tys s → gS s → gX s → xS A s s.heap → (∀ q, s.heap.size ≤ q → A q) → c.exceptionTable.toList = tableOf hh →
      (∀ (pc : Nat) (ls : Array Slot) (H : Heap) (locs : List Loc) (cells slots : Nat) (r' : Int32) (W' : va_W), r' = r → W' = W1 → narrow .int (.int r') = .int r' → cells ≤ mc → slots ≤ ms → decode cc pc = .ok (.ireturn, 1) → va_P D vwCl W' H → va_D A W' → va_S A s.heap H locs → W p l e rm s m args below meth c H locs cells slots Q (F0 m pc ls [.int r'])) →
      Bk p l e rm s m args below meth c Q A D maxL 0 0 W0 (lv_args 0 av) 0 []) :
    Met l y wsy rm (xP D tys av W0 sz) (mQi D r W0 W1 sz) mc ms (va_A W0 sz) := by
  refine MetFree.of_bodyS (code := cc) (maxLocals := maxL) (ret := some .int) hy ?_ ?_
  · intro args s m h hn
    obtain ⟨m9, meth, c, hn9, h1, h2, h3, h4, -, h5, h6, -⟩ := Cond.codeWith_spec (atoms_spec (ws := wsy) h _ (by rw [hw]; exact List.mem_cons_self))
    cases hn.symm.trans hn9
    exact ⟨meth, c, h1, h2, h3, h4, h5, h6⟩
  · intro p e s m args below meth c s₁ B hml hv _
    have hh0 : s₁.heap = s.heap := by rw [B.state]; rfl
    obtain ⟨rfl, hsz, hP, hK, hD0, hG, hX, hZ⟩ := hv
    have hx := B.exec
    have hb := B.bytes
    have hr := B.returns
    have hts := atoms_spec (ws := wsy) B.pre
    have hown' : s.vm.findClass RL = some m.cls := by rw [← hown]; exact findClass_of_methodNamed B.named
    have hlocks := B.notSynchronized
    have hex : c.exceptionTable.toList = tableOf hh := vx_table (x := y) B (hts (.codeWith y cc maxL (some .int) hh) (by rw [hw]; exact List.mem_cons_self))
    subst hsz
    have hD := hD0.self (sz := s.heap.size)
    have K : W p l e rm s m av.toArray below meth c s.heap [] 0 0 (MQ below (mQi D r W0 W1 s.heap.size) av.toArray s mc ms (va_A W0 s.heap.size)) (entryFrame m av.toArray maxL) := by
      rw [lg_entry_eq]
      refine body p e s m _ below meth c (va_A W0 s.heap.size) _ ⟨hx, hb, hml, hown', hts⟩ hK hG hX hZ (fun q h => Or.inr h) hex ?_ s.heap [] hP hD va_S.rf _ (lv_entry av hsl)
      intro pc ls H locs cells slots r' W' e1 e2 hn hc hs hdg hP' hD' hS'
      subst e1; subst e2
      refine W.widen (k := mc) (n := ms) hc hs ?_
      exact W.iret hx hb hr (fun t ht hW => ⟨⟨r', (), rfl, rfl, by rw [ht]; exact hP', hD'⟩, hS'.F ht⟩) hS'.2.2 hdg
    obtain ⟨t, a1, o, b1, b2, b3⟩ := K s₁ hh0 (Stand.of_body B)
    exact ⟨t, o, a1, b1, b2, b3⟩
theorem mkL {l : Launch} {y : MethodName} {wsy ws' : List Cond} {rm : Room} {cc : ByteArray} {maxL : Nat} {ty : FieldType} {D : va_G} {tys : List (ClassId × FieldType)} {av : List Value} {W0 W1 : va_W} {sz : Nat} {r : Int32} {mc ms : Nat}
    (hy : plainName y.cls = true) (hw : wsy = Cond.code y cc maxL (some ty) :: ws') (hown : y.cls = RL) (hsl : (lg_sl av).length ≤ maxL)
    (body : ∀ (p : Program) (e : Env) (s : State) (m : MethodId) (args : Array Value) (below : List Frame) (meth : Method) (c : Code) (A : Nat → Prop) (Q : State → Prop), CallFix p m c cc maxL s args wsy RL → va_K D vwCl tys s → gS s → gX s → xS A s s.heap → (∀ q, s.heap.size ≤ q → A q) →
      (∀ (pc : Nat) (ls : Array Slot) (H : Heap) (locs : List Loc) (cells slots : Nat) (r' : Int32) (W' : va_W), r' = r → W' = W1 → narrow ty (.int r') = .int r' → cells ≤ mc → slots ≤ ms → decode cc pc = .ok (.ireturn, 1) → va_P D vwCl W' H → va_D A W' → va_S A s.heap H locs → W p l e rm s m args below meth c H locs cells slots Q (F0 m pc ls [.int r'])) →
      Bk p l e rm s m args below meth c Q A D maxL 0 0 W0 (lv_args 0 av) 0 []) :
    Met l y wsy rm (xP D tys av W0 sz) (mQi D r W0 W1 sz) mc ms (va_A W0 sz) := by
  refine Met.ofW (cc := cc) (maxL := maxL) (ret := some ty) hy hw ?_
  intro p e s m args below meth c s₁ B hml hv
  obtain ⟨rfl, hsz, hP, hK, hD0, hG, hX, hZ⟩ := hv
  have hx := B.exec
  have hb := B.bytes
  have hr := B.returns
  have hts := atoms_spec (ws := wsy) B.pre
  have hown' : s.vm.findClass RL = some m.cls := by rw [← hown]; exact findClass_of_methodNamed B.named
  have hlocks := B.notSynchronized
  subst hsz
  have hD := hD0.self (sz := s.heap.size)
  rw [lg_entry_eq]
  refine body p e s m _ below meth c (va_A W0 s.heap.size) _ ⟨hx, hb, hml, hown', hts⟩ hK hG hX hZ (fun q h => Or.inr h) ?_ s.heap [] hP hD va_S.rf _ (lv_entry av hsl)
  intro pc ls H locs cells slots r' W' e1 e2 hn hc hs hdg hP' hD' hS'
  subst e1; subst e2
  refine W.widen (k := mc) (n := ms) hc hs ?_
  exact W.zret (ty := ty) hx hb hr hn (fun t ht hW => ⟨⟨r', (), rfl, rfl, by rw [ht]; exact hP', hD'⟩, hS'.F ht⟩) hS'.2.2 hdg
theorem mkXL {l : Launch} {y : MethodName} {wsy ws' : List Cond} {rm : Room} {cc : ByteArray} {maxL : Nat} {ret : Option FieldType} {D : va_G} {tys : List (ClassId × FieldType)} {av : List Value} {W0 : va_W} {sz k : Nat} {Qc : Array Value → State → Outcome → State → Prop}
    (hy : plainName y.cls = true) (hw : wsy = Cond.code y cc maxL ret :: ws') (hown : y.cls = RL) (hsl : (lg_sl av).length ≤ maxL)
    (body : ∀ (p : Program) (e : Env) (s : State) (m : MethodId) (args : Array Value) (below : List Frame) (meth : Method) (c : Code) (A : Nat → Prop) (Q : State → Prop), CallFix p m c cc maxL s args wsy RL → va_K D vwCl tys s → gS s → gX s → xS A s s.heap → (∀ q, s.heap.size ≤ q → A q) →
      (∀ (pc : Nat) (ls : Array Slot) (H : Heap) (locs : List Loc) (rest : List Value) (E : String) (ce : Cell) (q9 : Addr), E = xn k → H[q9]? = some ce → ce.vm = .none → s.vm.findClass E = some ce.cls → va_P D vwCl W0 H → va_D A W0 → va_S A s.heap H locs → vx_W p l e rm s m args below meth c H locs 1 6 Q (F0 m pc ls rest) q9) →
      Bk p l e rm s m args below meth c Q A D maxL 0 0 W0 (lv_args 0 av) 0 []) :
    vx_Met l y wsy rm (xP D tys av W0 sz) Qc (xC D W0 k sz) 1 6 (va_A W0 sz) := by
  refine vx_ofW (cc := cc) (maxL := maxL) (ret := ret) hy hw ?_
  intro p e s m args below meth c s₁ B hml hex hv
  obtain ⟨rfl, hsz, hP, hK, hD0, hG, hX, hZ⟩ := hv
  have hx := B.exec
  have hb := B.bytes
  have hts := atoms_spec (ws := wsy) B.pre
  have hown' : s.vm.findClass RL = some m.cls := by rw [← hown]; exact findClass_of_methodNamed B.named
  have hlocks := B.notSynchronized
  subst hsz
  have hD := hD0.self (sz := s.heap.size)
  have hno : ∀ x ∈ c.exceptionTable.toList, ∀ pc : Nat, covers x pc = false := fun x hx => False.elim (hex x hx)
  rw [lg_entry_eq]
  refine body p e s m _ below meth c (va_A W0 s.heap.size) _ ⟨hx, hb, hml, hown', hts⟩ hK hG hX hZ (fun q h => Or.inr h) ?_ s.heap [] hP hD va_S.rf _ (lv_entry av hsl)
  intro pc ls H locs rest E ce q9 hE hce hcv hcl hP' hD' hS'
  exact vx_out (fun x h => hno x h _) hlocks hce hcv hcl (fun t ht hvm => ⟨(), trivial, ⟨hE, by rw [ht]; exact hP', hD'⟩, hS'.F ht⟩) hS'.2.2 (Nat.le_refl _) (Nat.le_refl _)
/-- the script as an argument -/
def pP (b L : Nat) (xs : Nat → Int32) (av : List Value) (sz : Nat) : Array Value → State → Prop := va_Pc av (fun U => U.heap.size = sz ∧ va_X b L xs U U.heap ∧ b < sz)
theorem pP_blind (b L : Nat) (xs : Nat → Int32) (av : List Value) (sz : Nat) : FrameBlind (pP b L xs av sz) := by
  intro a U g mk q
  obtain ⟨h1, h2, h3, h4⟩ := q
  exact ⟨h1, h2, va_X.moved (u := U) (U := U.calling g mk a) (Vm.Alike.refl U.vm) h3, h4⟩
theorem pP_S {b L : Nat} {xs : Nat → Int32} {A : Nat → Prop} {s : State} {H : Heap} {locs : List Loc} (hXs : va_X b L xs s s.heap) (hbl : b < s.heap.size) (hbA : ¬ A b) (hS : va_S A s.heap H locs) (k n : Int32) : PreS s H (pP b L xs [.ref b, .int k, .int n] H.size) [.ref b, .int k, .int n] := by
  refine ⟨pP_blind _ _ _ _ _, fun U hU hW => ⟨rfl, by rw [hU], ?_, Nat.lt_of_lt_of_le hbl hS.1⟩⟩
  rw [hU]
  exact (hXs.kept (hS.2.1 b hbl hbA)).moved hW.alike

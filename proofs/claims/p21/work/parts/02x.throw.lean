/-! ===== calls that throw ===== -/
def xn (k : Nat) : String := if k = 1 then "java/lang/IndexOutOfBoundsException" else if k = 2 then "java/lang/IllegalArgumentException" else "java/lang/IllegalStateException"
def xIc (k : Nat) : Nat := if k = 1 then 255 else if k = 2 then 71 else 90
abbrev xNames : List String := ["java/lang/RuntimeException", "java/lang/Exception"]
def xStr : List (Nat × String) := [(253, "no such switch"), (256, "no such port"), (69, "a wire leads to another switch"), (262, "an argument is out of range"), (88, "a port is taken"), (97, "the port has neither a wire nor a house"), (258, "no such house"), (119, "the port or the house is taken"), (260, "no such lane"), (163, "no such frame"), (165, "the house is at no port"), (196, "nothing of that kind is held"), (205, "a port has nothing of that kind"), (235, "a walk leads to another house"), (237, "a house is at no port")]
def xS (A : Nat → Prop) (U : State) (H : Heap) : Prop := vx_Zq Bundle.tN "UNASSIGNED_STACK" Bundle.steD A U H ∧ vx_Zq Bundle.tN "SUPPRESSED_SENTINEL" Bundle.listD A U H
theorem xS.moved {A : Nat → Prop} {u U : State} {H : Heap} (hvm : u.vm.Alike U.vm) (h : xS A u H) : xS A U H := ⟨h.1.moved hvm, h.2.moved hvm⟩
theorem xS.kept {A : Nat → Prop} {U : State} {H H1 : Heap} (h : xS A U H) (hq : ∀ a : Nat, a < H.size → ¬ A a → H1[a]? = H[a]?) : xS A U H1 := ⟨h.1.kept hq, h.2.kept hq⟩
theorem xS.narrow {A B : Nat → Prop} {U : State} {H : Heap} (h : xS A U H) (hAB : ∀ q, B q → A q) : xS B U H := ⟨h.1.narrow hAB, h.2.narrow hAB⟩
abbrev xDecl : List MethodName := [Bundle.initS "java/lang/RuntimeException", Bundle.initS "java/lang/Exception", Bundle.initS "java/lang/Throwable"]
def gX (U : State) : Prop := (∀ q ∈ xStr, ∃ sa, vk_R RX5 q.1 q.2 sa U) ∧ (∀ k ∈ [1, 2, 3], (Cond.castable (xn k) (xn k)).before #[] U = true) ∧ (∀ q ∈ [(2, 1), (3, 1), (3, 2)], va_Nc (xn q.1) (xn q.2) U) ∧ (∀ x ∈ xDecl, va_Nw (.declares x) U)
theorem gX_same {s U : State} (hv : s.vm = U.vm) (h : gX s) : gX U := by
  refine ⟨fun q hq => ?_, fun k hk => va_tabs rfl hv (h.2.1 k hk), fun q hq => va_Nc.moved (by rw [hv]; exact Vm.Alike.refl _) (h.2.2.1 q hq), fun x hx => va_Nw.same rfl hv (h.2.2.2 x hx)⟩
  obtain ⟨sa, h1⟩ := h.1 q hq
  exact ⟨sa, vk_R.same hv.symm h1⟩
theorem gX_warm {s U : State} (hW : s.WarmedH U.vm) (h : gX s) : gX U := by
  refine ⟨fun q hq => ?_, fun k hk => ?_, fun q hq => va_Nc.moved hW.alike (h.2.2.1 q hq), fun x hx => va_Nw.warmD hW (h.2.2.2 x hx)⟩
  · obtain ⟨sa, h1⟩ := h.1 q hq
    exact ⟨sa, vk_R.warm hW h1⟩
  · refine va_tabs (u := s.setVm U.vm) (A := #[]) rfl rfl ?_
    rw [Cond.castable_setVm hW.alike]
    exact h.2.1 k hk
def xP (D : va_G) (tys : List (ClassId × FieldType)) (av : List Value) (W0 : va_W) (sz : Nat) : Array Value → State → Prop := va_Pc av (fun U => U.heap.size = sz ∧ va_P D vwCl W0 U.heap ∧ va_K D vwCl tys U ∧ va_D (fun _ => True) W0 ∧ gS U ∧ gX U ∧ xS (va_A W0 sz) U U.heap)
theorem xP_blind (D : va_G) (tys : List (ClassId × FieldType)) (av : List Value) (W0 : va_W) (sz : Nat) : FrameBlind (xP D tys av W0 sz) := by
  intro a U g mk q
  obtain ⟨h1, h2, h3, h4, h5, h6, h7, h8⟩ := q
  exact ⟨h1, h2, h3, va_K.moved (u := U) (U := U.calling g mk a) (Vm.Alike.refl U.vm) h4, h5, gS_same (U := U.calling g mk a) rfl h6, gX_same (U := U.calling g mk a) rfl h7, xS.moved (u := U) (U := U.calling g mk a) (Vm.Alike.refl U.vm) h8⟩
theorem xS_at {A : Nat → Prop} {big small small' big' : va_W} {s U : State} {H : Heap} {locs : List Loc} (hcut : Cut big small small' big') (hD : va_D A big) (hS : va_S A s.heap H locs) (hA : ∀ q, s.heap.size ≤ q → A q) (hZ : xS A s s.heap) (hU : U.heap = H) (hW : s.WarmedH U.vm) : xS (va_A small H.size) U U.heap := by
  rw [hU]
  exact ((hZ.kept hS.2.1).narrow (hcut.free hD hS hA)).moved hW.alike
theorem xP_S {D : va_G} {tys : List (ClassId × FieldType)} {av : List Value} {A : Nat → Prop} {big small small' big' : va_W} {s : State} {H : Heap} {locs : List Loc} (hcut : Cut big small small' big') (hP : va_P D vwCl big H) (hD : va_D A big) (hS : va_S A s.heap H locs) (hA : ∀ q, s.heap.size ≤ q → A q) (hK : va_K D vwCl tys s) (hG : gS s) (hX : gX s) (hZ : xS A s s.heap) : PreS s H (xP D tys av small H.size) av := by
  obtain ⟨h1, h2⟩ := hcut.pre hP hD
  exact ⟨xP_blind _ _ _ _ _, fun U hU hW => ⟨rfl, by rw [hU], by rw [hU]; exact h1, va_K.moved hW.alike hK, h2.weaken (fun _ _ _ _ => trivial), gS_warm hW hG, gX_warm hW hX, xS_at hcut hD hS hA hZ hU hW⟩⟩
theorem xP_V {D : va_G} {tys : List (ClassId × FieldType)} {b : Nat} {av : List Value} {A : Nat → Prop} {big small small' big' : va_W} {s : State} {H : Heap} {locs : List Loc} (hcut : Cut big small small' big') (hP : va_P D vwCl big H) (hD : va_D A big) (hS : va_S A s.heap H locs) (hA : ∀ q, s.heap.size ≤ q → A q) (hK : va_K D vwCl tys s) (hG : gS s) (hX : gX s) (hZ : xS A s s.heap)
    {ci q0 : Nat} {q : vw_C} {fs : List Value} (hc : vwCl[ci]? = some q) (he : small[q0]? = some (b, .inr (ci, fs))) : PreV s H q.1 b (xP D tys (.ref b :: av) small H.size) av := by
  obtain ⟨h1, h2⟩ := hcut.pre hP hD
  exact ⟨xP_blind _ _ _ _ _, va_recv hK h1 hc he, fun U hU hW => ⟨rfl, by rw [hU], by rw [hU]; exact h1, va_K.moved hW.alike hK, h2.weaken (fun _ _ _ _ => trivial), gS_warm hW hG, gX_warm hW hX, xS_at hcut hD hS hA hZ hU hW⟩⟩
/-- it has thrown an exception of kind k, the world is as it was -/
abbrev xC (D : va_G) (W0 : va_W) (k sz : Nat) : String → State → State → Prop := vx_X (fun (_ : Unit) => True) (fun E _ t => E = xn k ∧ va_P D vwCl W0 t.heap ∧ va_D (va_A W0 sz) W0) (va_A W0 sz)
abbrev xQv (A : Nat → Prop) : Array Value → State → Outcome → State → Prop := va_Qv (fun (_ : Unit) => False) (fun _ _ => True) A
abbrev xQi (A : Nat → Prop) : Array Value → State → Outcome → State → Prop := va_Qi (fun (_ : Int32) (_ : Unit) => False) (fun _ _ => True) A
section CLX
variable {p : Program} {l : Launch} {e : Env} {R : Room} {s : State} {m : MethodId} {args : Array Value} {below : List Frame} {meth : Method} {c : Code} {Q : State → Prop} {A : Nat → Prop} {D : va_G} {H : Heap} {locs : List Loc}
theorem clx_v {big small small' : va_W} {k pc : Nat} {ls : Array Slot} {st0 rest : List Value} {a : Array Value} {cells slots : Nat}
    (hr : vx_Run p l e R s m args below meth c H locs cells slots 1 6 (F0 m pc ls st0) rest (xQv (va_A small H.size) a) (xC D small k H.size) (va_A small H.size))
    (hcut : Cut big small small' big) (hsm : small' = small) (hP : va_P D vwCl big H) (hD : va_D A big) (hS : va_S A s.heap H locs) (hA : ∀ q, s.heap.size ≤ q → A q)
    (kx : ∀ (E : String) (ce : Cell) (q9 : Addr) (H1 : Heap) (locs1 : List Loc), E = xn k → H1[q9]? = some ce → ce.vm = .none → s.vm.findClass E = some ce.cls → va_P D vwCl big H1 → va_D A big → va_S A s.heap H1 locs1 → vx_W p l e R s m args below meth c H1 locs1 (cells + 1) (slots + 6) Q (F0 m pc ls rest) q9) : W p l e R s m args below meth c H locs cells slots Q (F0 m pc ls st0) := by
  subst hsm
  have hF := hcut.free hD hS hA
  refine vx_callv hr hS (fun q _ h => hF q h) hF (fun q _ h => hF q h) (fun E ce q9 u t H1 locs1 ht hvm hw hB hz1 hk1 hS1 hce hcv hcl => ?_) (fun u t H1 locs1 ht hvm hw hB hz1 hk1 hS1 => False.elim hw)
  obtain ⟨hE, hP1, hD1⟩ := hB
  rw [ht] at hP1
  obtain ⟨j1, j2⟩ := hcut.post hP hD hS hA hk1 hP1 hD1
  exact kx E ce q9 H1 locs1 hE hce hcv hcl j1 j2 hS1
theorem clx_i {big small small' : va_W} {k pc : Nat} {ls : Array Slot} {st0 rest : List Value} {a : Array Value} {cells slots : Nat}
    (hr : vx_Run p l e R s m args below meth c H locs cells slots 1 6 (F0 m pc ls st0) rest (xQi (va_A small H.size) a) (xC D small k H.size) (va_A small H.size))
    (hcut : Cut big small small' big) (hsm : small' = small) (hP : va_P D vwCl big H) (hD : va_D A big) (hS : va_S A s.heap H locs) (hA : ∀ q, s.heap.size ≤ q → A q)
    (kx : ∀ (E : String) (ce : Cell) (q9 : Addr) (H1 : Heap) (locs1 : List Loc), E = xn k → H1[q9]? = some ce → ce.vm = .none → s.vm.findClass E = some ce.cls → va_P D vwCl big H1 → va_D A big → va_S A s.heap H1 locs1 → vx_W p l e R s m args below meth c H1 locs1 (cells + 1) (slots + 6) Q (F0 m pc ls rest) q9) : W p l e R s m args below meth c H locs cells slots Q (F0 m pc ls st0) := by
  subst hsm
  have hF := hcut.free hD hS hA
  refine vx_calli hr hS (fun q _ h => hF q h) hF (fun q _ h => hF q h) (fun E ce q9 u t H1 locs1 ht hvm hw hB hz1 hk1 hS1 hce hcv hcl => ?_) (fun r u t H1 locs1 ht hvm hw hB hz1 hk1 hS1 => False.elim hw)
  obtain ⟨hE, hP1, hD1⟩ := hB
  rw [ht] at hP1
  obtain ⟨j1, j2⟩ := hcut.post hP hD hS hA hk1 hP1 hD1
  exact kx E ce q9 H1 locs1 hE hce hcv hcl j1 j2 hS1
end CLX
theorem x_good : ∀ k ∈ [1, 2, 3], ∀ w ∈ vx_atS RX5 (xIc k) (xn k) xNames, vx_ot w = true := by decide +kernel
theorem x_rest : ∀ k ∈ [1, 2, 3], ∀ w ∈ (vx_atS RX5 (xIc k) (xn k) xNames).filter (fun w => !goodWord w), w ∈ Cond.castable (xn k) (xn k) :: xDecl.map Cond.declares := by decide +kernel
theorem x_fit : ∀ k ∈ [1, 2, 3], Bundle.fit (xn k) = true := by decide +kernel
theorem x_fits : ∀ n ∈ xNames, Bundle.fit n = true := by decide +kernel
/-- from the walk of a body that throws to its contract -/
theorem mkX {l : Launch} {y : MethodName} {wsy ws' : List Cond} {rm : Room} {cc : ByteArray} {maxL : Nat} {ret : Option FieldType} {D : va_G} {tys : List (ClassId × FieldType)} {av : List Value} {W0 : va_W} {sz k : Nat} {Qc : Array Value → State → Outcome → State → Prop} (hfl : l.stackTraces = false)
    (hy : plainName y.cls = true) (hw : wsy = Cond.code y cc maxL ret :: ws') (hown : y.cls = RX5) (hsl : (lg_sl av).length ≤ maxL) (hrm : 6 ≤ rm.frames ∧ 96 ≤ rm.locals ∧ 1 ≤ rm.cells ∧ 6 ≤ rm.slots)
    (body : ∀ (p : Program) (e : Env) (s : State) (m : MethodId) (args : Array Value) (below : List Frame) (meth : Method) (c : Code) (A : Nat → Prop) (Q : State → Prop), CallFix p m c cc maxL s args wsy RX5 → va_K D vwCl tys s → gS s → gX s → xS A s s.heap → (∀ q, s.heap.size ≤ q → A q) →
      (∀ (pc : Nat) (ls : Array Slot) (H : Heap) (locs : List Loc) (rest : List Value) (ik is : Nat) (text : String), k ∈ [1, 2, 3] → (is, text) ∈ xStr → (Cond.classLink RX5 ik (xn k)).before args s = true → (Cond.initialized (xn k)).before args s = true → (∀ w ∈ (vx_atS RX5 (xIc k) (xn k) xNames).filter goodWord, w.before args s = true) →
        decode cc pc = .ok (.new ik, 3) → decode cc (pc + 3) = .ok (.dup, 1) → decode cc (pc + 4) = .ok (.ldc is, 2) → decode cc (pc + 6) = .ok (.invokespecial (xIc k), 3) → decode cc (pc + 9) = .ok (.athrow, 1) → ls.size = maxL → (rest.map fun v => v.category).sum ≤ 8 →
        va_P D vwCl W0 H → va_D A W0 → va_S A s.heap H locs → W p l e rm s m args below meth c H locs 0 0 Q (F0 m pc ls rest)) →
      (∀ (pc : Nat) (ls : Array Slot) (H : Heap) (locs : List Loc) (rest : List Value) (ik is : Nat) (text : String), k ∈ [1, 2, 3] → (is, text) ∈ xStr → (Cond.classLink RX5 ik (xn k)).before args s = true → (Cond.initialized (xn k)).before args s = true → (∀ w ∈ (vx_atS RX5 (xIc k) (xn k) xNames).filter goodWord, w.before args s = true) →
        decode cc pc = .ok (.new ik, 3) → decode cc (pc + 3) = .ok (.dup, 1) → decode cc (pc + 4) = .ok (.ldc_w is, 3) → decode cc (pc + 7) = .ok (.invokespecial (xIc k), 3) → decode cc (pc + 10) = .ok (.athrow, 1) → ls.size = maxL → (rest.map fun v => v.category).sum ≤ 8 →
        va_P D vwCl W0 H → va_D A W0 → va_S A s.heap H locs → W p l e rm s m args below meth c H locs 0 0 Q (F0 m pc ls rest)) →
      (∀ (pc : Nat) (ls : Array Slot) (H : Heap) (locs : List Loc) (rest : List Value) (E : String) (ce : Cell) (q9 : Addr), E = xn k → H[q9]? = some ce → ce.vm = .none → s.vm.findClass E = some ce.cls → va_P D vwCl W0 H → va_D A W0 → va_S A s.heap H locs → vx_W p l e rm s m args below meth c H locs 1 6 Q (F0 m pc ls rest) q9) →
      Bk p l e rm s m args below meth c Q A D maxL 0 0 W0 (lv_args 0 av) 0 []) :
    vx_Met l y wsy rm (xP D tys av W0 sz) Qc (xC D W0 k sz) 1 6 (va_A W0 sz) := by
  refine vx_ofW (cc := cc) (maxL := maxL) (ret := ret) hy hw ?_
  intro p e s m args below meth c s₁ B hml hex hv
  obtain ⟨rfl, hsz, hP, hK, hD0, hG, hX, hZ⟩ := hv
  have hx := B.exec
  have hb := B.bytes
  have hts := atoms_spec (ws := wsy) B.pre
  have hown' : s.vm.findClass RX5 = some m.cls := by rw [← hown]; exact findClass_of_methodNamed B.named
  have hlocks := B.notSynchronized
  subst hsz
  have hD := hD0.self (sz := s.heap.size)
  have hA : ∀ q, s.heap.size ≤ q → va_A W0 s.heap.size q := fun q h => Or.inr h
  obtain ⟨r1, r2, r3, r4⟩ := hrm
  have hno : ∀ x ∈ c.exceptionTable.toList, ∀ pc : Nat, covers x pc = false := fun x hx => False.elim (hex x hx)
  have hat : k ∈ [1, 2, 3] → (∀ w ∈ (vx_atS RX5 (xIc k) (xn k) xNames).filter goodWord, w.before av.toArray s = true) → ∀ w ∈ vx_atS RX5 (xIc k) (xn k) xNames, w.before av.toArray s = true := by
    intro hk h1
    refine vx_hat h1 (x_rest k hk) (fun w hw => ?_)
    rcases List.mem_cons.mp hw with h | h
    · subst h; exact va_any rfl (hX.2.1 k hk)
    · obtain ⟨x, hx, e⟩ := List.mem_map.mp h
      subst e
      exact va_Nw.use rfl (hX.2.2.2 x hx)
  have hgood : k ∈ [1, 2, 3] → ∀ ik, ∀ w ∈ Cond.classLink RX5 ik (xn k) :: Cond.initialized (xn k) :: vx_atS RX5 (xIc k) (xn k) xNames, vx_ot w = true := by
    intro hk ik w hw
    rcases List.mem_cons.mp hw with h | h
    · subst h; rfl
    · rcases List.mem_cons.mp h with h | h
      · subst h; rfl
      · exact x_good k hk w h
  rw [lg_entry_eq]
  refine body p e s m _ below meth c (va_A W0 s.heap.size) _ ⟨hx, hb, hml, hown', hts⟩ hK hG hX hZ hA ?_ ?_ ?_ s.heap [] hP hD va_S.rf _ (lv_entry av hsl)
  · intro pc ls H locs rest ik is text hk hs hcl hini hgw d0 d3 d4 d6 d9 hls hrest hP' hD' hS'
    obtain ⟨sa, hstr⟩ := hX.1 _ hs
    refine vx_throwS (is := is) (text := text) (sa := sa) hx hb hfl hown' (x_fit k hk) x_fits hcl hini hstr (hat hk hgw) (hgood hk ik) hZ.1 hZ.2 hS' (hls.trans hml.symm) d0 d3 d4 d6 d9 (fun x h => hno x h _) (by show 2 + 3 < rm.frames; omega) (by show (rest.map fun v => v.category).sum + (13 * (2 + 1) + 43) ≤ rm.locals; omega) (by show 0 + 1 ≤ rm.cells; omega) (by show 0 + 6 ≤ rm.slots; omega) hlocks ?_ hS'.2.2 (Nat.le_refl _) (Nat.le_refl _)
    intro t hvm hz hq
    refine ⟨(), trivial, ⟨rfl, hP'.kept (fun j q h => hq _ (hP' j q h).lt), hD'⟩, Nat.le_trans hS'.1 hz, fun q h1 h2 => (hq q (Nat.lt_of_lt_of_le h1 hS'.1)).trans (hS'.2.1 q h1 h2)⟩
  · intro pc ls H locs rest ik is text hk hs hcl hini hgw d0 d3 d4 d6 d9 hls hrest hP' hD' hS'
    obtain ⟨sa, hstr⟩ := hX.1 _ hs
    refine vx_throwSW (is := is) (text := text) (sa := sa) hx hb hfl hown' (x_fit k hk) x_fits hcl hini hstr (hat hk hgw) (hgood hk ik) hZ.1 hZ.2 hS' (hls.trans hml.symm) d0 d3 d4 d6 d9 (fun x h => hno x h _) (by show 2 + 3 < rm.frames; omega) (by show (rest.map fun v => v.category).sum + (13 * (2 + 1) + 43) ≤ rm.locals; omega) (by show 0 + 1 ≤ rm.cells; omega) (by show 0 + 6 ≤ rm.slots; omega) hlocks ?_ hS'.2.2 (Nat.le_refl _) (Nat.le_refl _)
    intro t hvm hz hq
    refine ⟨(), trivial, ⟨rfl, hP'.kept (fun j q h => hq _ (hP' j q h).lt), hD'⟩, Nat.le_trans hS'.1 hz, fun q h1 h2 => (hq q (Nat.lt_of_lt_of_le h1 hS'.1)).trans (hS'.2.1 q h1 h2)⟩
  · intro pc ls H locs rest E ce q9 hE hce hcv hcl hP' hD' hS'
    exact vx_out (fun x h => hno x h _) hlocks hce hcv hcl (fun t ht hvm => ⟨(), trivial, ⟨hE, by rw [ht]; exact hP', hD'⟩, hS'.F ht⟩) hS'.2.2 (Nat.le_refl _) (Nat.le_refl _)
/-! ===== the law's own methods ===== -/
def hxb {α β : Type} (x : Option (α ⊕ Nat)) (g : α → Option β) (h : Nat → Option β) : Option β := match x with
  | none => none
  | some (.inl a) => g a
  | some (.inr k) => h k
theorem hx_t {α β : Type} {x : Option (α ⊕ Nat)} {g : α → Option β} {h : Nat → Option β} {r : β} (hh : hxb x g h = some r) : (∃ a, x = some (.inl a) ∧ g a = some r) ∨ (∃ k, x = some (.inr k) ∧ h k = some r) := by
  cases x with
  | none => cases hh
  | some a =>
    cases a with
    | inl a => exact Or.inl ⟨a, rfl, hh⟩
    | inr k => exact Or.inr ⟨k, rfl, hh⟩

/-! ===== functional texts: words ===== -/
/-- a state of one object: slot, index, content (a number field: index 0) -/
abbrev St : Type := Nat → Nat → Int32
def st0 : St := fun _ _ => 0
def pF (σ : St) (k : Nat) (h : Nat → Int32) : St := fun j => bif Nat.beq j k then h else σ j
def aS (σ : St) (k : Nat) (i x : Int32) : St := pF σ k (upd (σ k) i.toNatClampNeg x)
def iS (σ : St) (k : Nat) (x : Int32) : St := pF σ k (fun _ => x)
def inb (i : Int32) (n : Nat) : Bool := !(decide (i < 0) || decide (n ≤ i.toNatClampNeg))
theorem inb_in {i : Int32} {n : Nat} (h : inb i n = true) : vp_in i n := by
  intro q
  rcases q with q | q <;> simp [inb, q] at h
def isb (x : Int32) : Bool := decide (x = 0) || decide (x = 1)
theorem isb_n {x : Int32} (h : isb x = true) : narrow .boolean (.int x) = .int x := by
  simp [isb] at h
  rcases h with h | h <;> subst h <;> decide
def ck {α : Type} (b : Bool) (x : Option α) : Option α := bif b then x else none
def bd {α β : Type} (x : Option α) (g : α → Option β) : Option β := match x with
  | none => none
  | some a => g a
def bx {α β : Type} (x : Option (α ⊕ Nat)) (g : α → Option (β ⊕ Nat)) : Option (β ⊕ Nat) := match x with
  | none => none
  | some (.inl a) => g a
  | some (.inr k) => some (.inr k)
theorem ck_t {α : Type} {b : Bool} {x : Option α} {r : α} (h : ck b x = some r) : b = true ∧ x = some r := by
  cases b with
  | true => exact ⟨rfl, h⟩
  | false => cases h
theorem bd_t {α β : Type} {x : Option α} {g : α → Option β} {r : β} (h : bd x g = some r) : ∃ a, x = some a ∧ g a = some r := by
  cases x with
  | none => cases h
  | some a => exact ⟨a, rfl, h⟩
theorem bx_l {α β : Type} {x : Option (α ⊕ Nat)} {g : α → Option (β ⊕ Nat)} {r : β} (h : bx x g = some (.inl r)) : ∃ a, x = some (.inl a) ∧ g a = some (.inl r) := by
  cases x with
  | none => cases h
  | some a =>
    cases a with
    | inl a => exact ⟨a, rfl, h⟩
    | inr k => cases h
theorem bx_r {α β : Type} {x : Option (α ⊕ Nat)} {g : α → Option (β ⊕ Nat)} {r : Nat} (h : bx x g = some (.inr r)) : x = some (.inr r) ∨ ∃ a, x = some (.inl a) ∧ g a = some (.inr r) := by
  cases x with
  | none => cases h
  | some a =>
    cases a with
    | inl a => exact Or.inr ⟨a, rfl, h⟩
    | inr k => cases h; exact Or.inl rfl
theorem if_t {α : Type} {c : Prop} {d : Decidable c} {a b o : α} (hc : c) (h : @ite α c d a b = o) : a = o := by rw [if_pos hc] at h; exact h
theorem if_f {α : Type} {c : Prop} {d : Decidable c} {a b o : α} (hc : ¬ c) (h : @ite α c d a b = o) : b = o := by rw [if_neg hc] at h; exact h
def loopN {α β : Type} (step : (α → Option β) → α → Option β) : Nat → α → Option β
  | 0, _ => none
  | n + 1, a => step (loopN step n) a
theorem loop_ind {α β : Type} {step : (α → Option β) → α → Option β} {res : β} (P : α → Prop) (h : ∀ k : α → Option β, (∀ a, k a = some res → P a) → ∀ a, step k a = some res → P a) : ∀ (n : Nat) (a : α), loopN step n a = some res → P a := by
  intro n
  induction n with
  | zero => intro a ha; cases ha
  | succ n ih => intro a ha; exact h _ ih a ha
/-! ===== worlds and calls ===== -/
/-- a block's start: any heap that holds the world, any locals that hold the listed values -/
def Bk (p : Program) (l : Launch) (e : Env) (R : Room) (s : State) (m : MethodId) (args : Array Value) (below : List Frame) (meth : Method) (c : Code) (Q : State → Prop) (A : Nat → Prop) (D : va_G) (nL cc ss : Nat) (ws : va_W) (lv : List (Nat × Value)) (pc : Nat) (st : List Value) : Prop :=
  ∀ (H : Heap) (locs : List Loc), va_P D vwCl ws H → va_D A ws → va_S A s.heap H locs → ∀ ls : Array Slot, lv_has ls nL lv → W p l e R s m args below meth c H locs cc ss Q (F0 m pc ls st)
/-- a part of a world, and the world with the part's new contents -/
def Cut (big small small' big' : va_W) : Prop := ∃ (isC isR isP : List Nat) (wr : va_W), isC.map (fun i => big[i]?) = small.map some ∧ isR.map (fun i => big[i]?) = wr.map some ∧ va_nd isR = true ∧ (∀ i ∈ isR, i ∉ isC) ∧ va_nd isC = true ∧ va_nd isP = true ∧ isP.map (fun i => (wr ++ small')[i]?) = big'.map some
theorem nd_from : ∀ (n k : Nat), va_nd (List.range' k n) = true := by
  intro n
  induction n with
  | zero => intro k; rfl
  | succ n ih =>
    intro k
    rw [List.range'_succ]
    simp only [va_nd, Bool.and_eq_true, decide_eq_true_eq]
    refine ⟨?_, ih _⟩
    intro h
    rw [List.mem_range'_1] at h
    omega
theorem map_all (ws : va_W) : (List.range' 0 ws.length).map (fun i => ws[i]?) = ws.map some := by
  apply List.ext_getElem?
  intro i
  by_cases h : i < ws.length
  · simp [List.getElem?_map, h]
  · simp [List.getElem?_map, h]
theorem Cut.self (ws ws' : va_W) : Cut ws ws ws' ws' :=
  ⟨List.range' 0 ws.length, [], List.range' 0 ws'.length, [], map_all ws, rfl, rfl, fun i h => by simp at h, nd_from _ _, nd_from _ _, by rw [List.nil_append]; exact map_all ws'⟩
theorem Cut.nil (ws : va_W) : Cut ws [] [] ws :=
  ⟨[], List.range' 0 ws.length, List.range' 0 ws.length, ws, rfl, map_all ws, nd_from _ _, fun i _ h => by simp at h, rfl, nd_from _ _, by rw [List.append_nil]; exact map_all ws⟩
theorem sw_out {x : Int32} (lo hi : Int) (h : ∀ j : Int, lo ≤ j → j ≤ hi → ¬ x = Int32.ofInt j) : x.toInt < lo ∨ hi < x.toInt := by
  by_cases h1 : x.toInt < lo
  · exact Or.inl h1
  · by_cases h2 : hi < x.toInt
    · exact Or.inr h2
    · exact absurd (Int32.ofInt_toInt x).symm (h x.toInt (by omega) (by omega))
theorem sub_of_map {ws ws' : va_W} {is : List Nat} (h : is.map (fun i => ws[i]?) = ws'.map some) : is.filterMap (fun i => ws[i]?) = ws' := by
  have e : is.filterMap (fun i => ws[i]?) = (is.map (fun i => ws[i]?)).filterMap id := by rw [List.filterMap_map]; rfl
  rw [e, h, List.filterMap_map]
  simp
theorem Cut.pre {A : Nat → Prop} {D : va_G} {big small small' big' : va_W} {H : Heap} (h : Cut big small small' big') (hP : va_P D vwCl big H) (hD : va_D A big) : va_P D vwCl small H ∧ va_D A small := by
  obtain ⟨isC, isR, isP, wr, h1, h2, h3, h4, h5, h6, h7⟩ := h
  exact ⟨hP.sub isC (sub_of_map h1), hD.sub isC h5 h1⟩
theorem Cut.post {A : Nat → Prop} {D : va_G} {big small small' big' : va_W} {H0 H H1 : Heap} {locs : List Loc} (h : Cut big small small' big') (hP : va_P D vwCl big H) (hD : va_D A big) (hS : va_S A H0 H locs) (hA : ∀ q, H0.size ≤ q → A q)
    (hk : ∀ q : Nat, q < H.size → ¬ va_A small H.size q → H1[q]? = H[q]?) (hP1 : va_P D vwCl small' H1) (hD1 : va_D (va_A small H.size) small') : va_P D vwCl big' H1 ∧ va_D A big' := by
  obtain ⟨isC, isR, isP, wr, h1, h2, h3, h4, h5, h6, h7⟩ := h
  obtain ⟨j1, j2⟩ := va_join hP hD isC isR h1 h2 h3 h4 hk (va_free hD hS hA isC h1) hP1 hD1
  exact ⟨j1.sub isP (sub_of_map h7), j2.sub isP h6 h7⟩
theorem Cut.free {A : Nat → Prop} {big small small' big' : va_W} {H0 H : Heap} {locs : List Loc} (h : Cut big small small' big') (hD : va_D A big) (hS : va_S A H0 H locs) (hA : ∀ q, H0.size ≤ q → A q) : ∀ q, va_A small H.size q → A q := by
  obtain ⟨isC, isR, isP, wr, h1, h2, h3, h4, h5, h6, h7⟩ := h
  exact va_free hD hS hA isC h1
abbrev tysX (cI cZ : ClassId) : List (ClassId × FieldType) := [(cI, .int), (cZ, .boolean)]
/-- what every state of the run tells of the machine's tables, beside the words: links to private members of nest mates -/
def gS (U : State) : Prop := va_Nw (.methodLinkNest RX3 110 yX5_spotOf RX5) U ∧ va_Nw (.methodLinkNest RX5 44 yX1_init RX5) U
theorem gS_same {s U : State} (hv : s.vm = U.vm) (h : gS s) : gS U := ⟨va_Nw.same rfl hv h.1, va_Nw.same rfl hv h.2⟩
theorem gS_warm {s U : State} (hW : s.WarmedH U.vm) (h : gS s) : gS U := ⟨va_Nw.warmM hW h.1, va_Nw.warmM hW h.2⟩
/-- a contract's start: the arguments, the world W0 in a heap of sz cells, the tables -/
def mP (D : va_G) (tys : List (ClassId × FieldType)) (av : List Value) (W0 : va_W) (sz : Nat) : Array Value → State → Prop := va_Pc av (fun U => U.heap.size = sz ∧ va_P D vwCl W0 U.heap ∧ va_K D vwCl tys U ∧ va_D (fun _ => True) W0 ∧ gS U)
/-- its end: the number r, or none, and the world W1 -/
abbrev mQi (D : va_G) (r : Int32) (W0 W1 : va_W) (sz : Nat) : Array Value → State → Outcome → State → Prop := va_Qi (fun (r' : Int32) (_ : Unit) => r' = r) (fun _ t => va_P D vwCl W1 t.heap ∧ va_D (va_A W0 sz) W1) (va_A W0 sz)
abbrev mQv (D : va_G) (W0 W1 : va_W) (sz : Nat) : Array Value → State → Outcome → State → Prop := va_Qv (fun (_ : Unit) => True) (fun _ t => va_P D vwCl W1 t.heap ∧ va_D (va_A W0 sz) W1) (va_A W0 sz)
theorem mP_blind (D : va_G) (tys : List (ClassId × FieldType)) (av : List Value) (W0 : va_W) (sz : Nat) : FrameBlind (mP D tys av W0 sz) := by
  intro a U g mk q
  obtain ⟨h1, h2, h3, h4, h5, h6⟩ := q
  exact ⟨h1, h2, h3, va_K.moved (u := U) (U := U.calling g mk a) (Vm.Alike.refl U.vm) h4, h5, gS_same (U := U.calling g mk a) rfl h6⟩
theorem mP_S {D : va_G} {tys : List (ClassId × FieldType)} {av : List Value} {A : Nat → Prop} {big small small' big' : va_W} {s : State} {H : Heap} (hcut : Cut big small small' big') (hP : va_P D vwCl big H) (hD : va_D A big) (hK : va_K D vwCl tys s) (hG : gS s) : PreS s H (mP D tys av small H.size) av := by
  obtain ⟨h1, h2⟩ := hcut.pre hP hD
  exact ⟨mP_blind _ _ _ _ _, fun U hU hW => ⟨rfl, by rw [hU], by rw [hU]; exact h1, va_K.moved hW.alike hK, h2.weaken (fun _ _ _ _ => trivial), gS_warm hW hG⟩⟩
theorem mP_V {D : va_G} {tys : List (ClassId × FieldType)} {b : Nat} {av : List Value} {A : Nat → Prop} {big small small' big' : va_W} {s : State} {H : Heap} (hcut : Cut big small small' big') (hP : va_P D vwCl big H) (hD : va_D A big) (hK : va_K D vwCl tys s) (hG : gS s)
    {ci q0 : Nat} {q : vw_C} {fs : List Value} (hc : vwCl[ci]? = some q) (he : small[q0]? = some (b, .inr (ci, fs))) : PreV s H q.1 b (mP D tys (.ref b :: av) small H.size) av := by
  obtain ⟨h1, h2⟩ := hcut.pre hP hD
  exact ⟨mP_blind _ _ _ _ _, va_recv hK h1 hc he, fun U hU hW => ⟨rfl, by rw [hU], by rw [hU]; exact h1, va_K.moved hW.alike hK, h2.weaken (fun _ _ _ _ => trivial), gS_warm hW hG⟩⟩
section CLR
variable {p : Program} {l : Launch} {e : Env} {R : Room} {s : State} {m : MethodId} {args : Array Value} {below : List Frame} {meth : Method} {c : Code} {Q : State → Prop} {A : Nat → Prop} {D : va_G} {H : Heap} {locs : List Loc}
theorem cl_i {big small small' big' : va_W} {r : Int32} {pc : Nat} {ls : Array Slot} {st0 rest : List Value} {a : Array Value} {mc ms cells slots : Nat}
    (hr : va_Run p l e R s m args below meth c H locs cells slots mc ms (F0 m pc ls st0) rest (mQi D r small small' H.size a) (va_A small H.size))
    (hcut : Cut big small small' big') (hP : va_P D vwCl big H) (hD : va_D A big) (hS : va_S A s.heap H locs) (hA : ∀ q, s.heap.size ≤ q → A q)
    (kk : ∀ (H1 : Heap) (locs1 : List Loc), va_P D vwCl big' H1 → va_D A big' → va_S A s.heap H1 locs1 → W p l e R s m args below meth c H1 locs1 (cells + mc) (slots + ms) Q (F0 m (pc + 3) ls (.int r :: rest))) : W p l e R s m args below meth c H locs cells slots Q (F0 m pc ls st0) := by
  have hF := hcut.free hD hS hA
  refine va_calli hr hS (fun q _ h => hF q h) hF (fun r' u t H1 locs1 ht hvm hw hB hz1 hk1 hS1 => ?_)
  obtain ⟨hP1, hD1⟩ := hB
  rw [ht] at hP1
  have hw : r' = r := hw
  subst hw
  obtain ⟨j1, j2⟩ := hcut.post hP hD hS hA hk1 hP1 hD1
  exact kk H1 locs1 j1 j2 hS1
theorem cl_v {big small small' big' : va_W} {pc : Nat} {ls : Array Slot} {st0 rest : List Value} {a : Array Value} {mc ms cells slots : Nat}
    (hr : va_Run p l e R s m args below meth c H locs cells slots mc ms (F0 m pc ls st0) rest (mQv D small small' H.size a) (va_A small H.size))
    (hcut : Cut big small small' big') (hP : va_P D vwCl big H) (hD : va_D A big) (hS : va_S A s.heap H locs) (hA : ∀ q, s.heap.size ≤ q → A q)
    (kk : ∀ (H1 : Heap) (locs1 : List Loc), va_P D vwCl big' H1 → va_D A big' → va_S A s.heap H1 locs1 → W p l e R s m args below meth c H1 locs1 (cells + mc) (slots + ms) Q (F0 m (pc + 3) ls rest)) : W p l e R s m args below meth c H locs cells slots Q (F0 m pc ls st0) := by
  have hF := hcut.free hD hS hA
  refine va_callv hr hS (fun q _ h => hF q h) hF (fun u t H1 locs1 ht hvm hw hB hz1 hk1 hS1 => ?_)
  obtain ⟨hP1, hD1⟩ := hB
  rw [ht] at hP1
  obtain ⟨j1, j2⟩ := hcut.post hP hD hS hA hk1 hP1 hD1
  exact kk H1 locs1 j1 j2 hS1
/-- storing in a row of numbers, of truths: the world's new name -/
theorem st_i {cc : ByteArray} {pc : Nat} {ls : Array Slot} {rest : List Value} {tys : List (ClassId × FieldType)} {cells slots : Nat} {a : Nat} {ws ws' : va_W} {H0 : Heap} (hexec : p.tables.exec = Jvm.exec) (hb : c.code = cc) (hK : va_K D vwCl tys s) (hP : va_P D vwCl ws H) (hD : va_D A ws) (hS : va_S A H0 H locs) (q0 t0 : Nat) {cA : ClassId} {n : Nat} {f : Nat → Int32} {i : Int32} {x : Int32} (hset : ws.set q0 (a, .inl (cA, n, .inl (upd f i.toNatClampNeg x))) = ws') (ha : ws[q0]? = some (a, .inl (cA, n, .inl f))) (ht : tys[t0]? = some (cA, .int)) (hin : inb i n = true) (hdg : decode cc pc = .ok (.iastore, 1))
    (kk : ∀ (H1 : Heap) (locs1 : List Loc), va_P D vwCl ws' H1 → va_D A ws' → va_S A H0 H1 locs1 → W p l e R s m args below meth c H1 locs1 cells slots Q (F0 m (pc + 1) ls rest)) : W p l e R s m args below meth c H locs cells slots Q (F0 m pc ls (.int x :: .int i :: .ref a :: rest)) := by
  subst hset
  exact va_iast hexec hb hK hP hD hS q0 t0 ha ht (inb_in hin) hdg kk
theorem st_z {cc : ByteArray} {pc : Nat} {ls : Array Slot} {rest : List Value} {tys : List (ClassId × FieldType)} {cells slots : Nat} {a : Nat} {ws ws' : va_W} {H0 : Heap} (hexec : p.tables.exec = Jvm.exec) (hb : c.code = cc) (hK : va_K D vwCl tys s) (hP : va_P D vwCl ws H) (hD : va_D A ws) (hS : va_S A H0 H locs) (q0 t0 : Nat) {cA : ClassId} {n : Nat} {f : Nat → Int32} {i : Int32} {x : Int32} (hset : ws.set q0 (a, .inl (cA, n, .inl (upd f i.toNatClampNeg (vp_nar .boolean x)))) = ws') (ha : ws[q0]? = some (a, .inl (cA, n, .inl f))) (ht : tys[t0]? = some (cA, .boolean)) (hin : inb i n = true) (hdg : decode cc pc = .ok (.bastore, 1))
    (kk : ∀ (H1 : Heap) (locs1 : List Loc), va_P D vwCl ws' H1 → va_D A ws' → va_S A H0 H1 locs1 → W p l e R s m args below meth c H1 locs1 cells slots Q (F0 m (pc + 1) ls rest)) : W p l e R s m args below meth c H locs cells slots Q (F0 m pc ls (.int x :: .int i :: .ref a :: rest)) := by
  subst hset
  exact va_zast hexec hb hK hP hD hS q0 t0 ha ht (inb_in hin) hdg kk
/-- a number field put: the world's new name -/
theorem st_f {cc : ByteArray} {pc : Nat} {ls : Array Slot} {rest : List Value} {tys : List (ClassId × FieldType)} {cells slots : Nat} {a : Nat} {ws ws' : va_W} {H0 : Heap} {own ref C : String} {T : u_T} {N ci index : Nat} {Ts : List Cond} {nL : Nat} (S : CallFix p m c cc nL s args Ts own) (hin : ∀ w ∈ u_ws C T N, w ∈ Ts) (ty0 : Nat → FieldType) (hty : ∀ k, k < N → parseFieldDescriptor (T k).2.2.1 = some (ty0 k)) (hnm : ∀ a, a < N → ∀ b, b < N → a ≠ b → (T a).2.1 ≠ (T b).2.1) (hK : va_K D vwCl tys s) (hP : va_P D vwCl ws H) (hD : va_D A ws) (hS0 : va_S A H0 H locs) (q0 : Nat) {fs : List Value} (k : Nat) {x : Int32} (hset : ws.set q0 (a, .inr (ci, fs.set k (.int x))) = ws') (he : ws[q0]? = some (a, .inr (ci, fs))) (hc : vwCl[ci]? = some (C, T, N)) (hk : k < N) (hlink : (Cond.fieldLink own index ref (T k).2.1 (T k).2.2.1).before args s = true) (href : (T k).1 = ref) (hfin : (T k).2.2.2 = false) (hd : parseFieldDescriptor (T k).2.2.1 = some .int) (hl : Nat.ble (k + 1) fs.length = true)
    (hdg : decode cc pc = .ok (.putfield index, 3)) (kk : ∀ (H1 : Heap) (locs1 : List Loc), va_P D vwCl ws' H1 → va_D A ws' → va_S A H0 H1 locs1 → W p l e R s m args below meth c H1 locs1 cells slots Q (F0 m (pc + 3) ls rest)) : W p l e R s m args below meth c H locs cells slots Q (F0 m pc ls (.int x :: .ref a :: rest)) := by
  subst hset
  obtain ⟨hx, hb, hml, hown, hts⟩ := S
  exact va_put hx hb hts hin ty0 hty hnm hown hK hP hD hS0 q0 he hc k hk hlink (fun x h => by rw [← href]; exact h) hfin hd rfl rfl (Nat.le_of_ble_eq_true hl) hdg kk
theorem ld_f {cc : ByteArray} {nL pc : Nat} {ls : Array Slot} {rest : List Value} {tys : List (ClassId × FieldType)} {cells slots : Nat} {a : Nat} {ws : va_W} {own ref C : String} {T : u_T} {N ci index : Nat} {Ts : List Cond} (S : CallFix p m c cc nL s args Ts own) (hin : ∀ w ∈ u_ws C T N, w ∈ Ts) (hK : va_K D vwCl tys s) (hP : va_P D vwCl ws H) (q0 : Nat) {fs : List Value} (k : Nat) (v : Value) (he : ws[q0]? = some (a, .inr (ci, fs))) (hc : vwCl[ci]? = some (C, T, N)) (hk : k < N) (hlink : (Cond.fieldLink own index ref (T k).2.1 (T k).2.2.1).before args s = true) (href : (T k).1 = ref) (hv : fs[k]? = some v)
    (hdg : decode cc pc = .ok (.getfield index, 3)) (kk : W p l e R s m args below meth c H locs cells slots Q (F0 m (pc + 3) ls (v :: rest))) : W p l e R s m args below meth c H locs cells slots Q (F0 m pc ls (.ref a :: rest)) := by
  obtain ⟨hx, hb, hml, hown, hts⟩ := S
  exact va_get hx hb hts hin hown hK hP q0 he hc k hk hlink (fun x h => by rw [← href]; exact h) hv hdg kk
end CLR
/-- from a body's walk to the contract -/
theorem mkM_i {l : Launch} {y : MethodName} {wsy ws' : List Cond} {rm : Room} {cc : ByteArray} {maxL : Nat} {ty : FieldType} {own : String} {D : va_G} {tys : List (ClassId × FieldType)} {av : List Value} {W0 W1 : va_W} {sz : Nat} {r : Int32}
    (hy : plainName y.cls = true) (hw : wsy = Cond.code y cc maxL (some ty) :: ws') (hown : y.cls = own) (hsl : (lg_sl av).length ≤ maxL)
    (body : ∀ (p : Program) (e : Env) (s : State) (m : MethodId) (args : Array Value) (below : List Frame) (meth : Method) (c : Code) (A : Nat → Prop) (Q : State → Prop), CallFix p m c cc maxL s args wsy own → va_K D vwCl tys s → gS s → (∀ q, s.heap.size ≤ q → A q) →
      (∀ (pc : Nat) (ls : Array Slot) (H : Heap) (locs : List Loc) (r' : Int32) (W' : va_W), r' = r → W' = W1 → narrow ty (.int r') = .int r' → decode cc pc = .ok (.ireturn, 1) → va_P D vwCl W' H → va_D A W' → va_S A s.heap H locs → W p l e rm s m args below meth c H locs 0 0 Q (F0 m pc ls [.int r'])) →
      Bk p l e rm s m args below meth c Q A D maxL 0 0 W0 (lv_args 0 av) 0 []) :
    Met l y wsy rm (mP D tys av W0 sz) (mQi D r W0 W1 sz) 0 0 (va_A W0 sz) := by
  refine Met.ofW (cc := cc) (maxL := maxL) (ret := some ty) hy hw ?_
  intro p e s m args below meth c s₁ B hml hv
  obtain ⟨rfl, hsz, hP, hK, hD0, hG⟩ := hv
  have hx := B.exec
  have hb := B.bytes
  have hr := B.returns
  have hts := atoms_spec (ws := wsy) B.pre
  have hown' : s.vm.findClass own = some m.cls := by rw [← hown]; exact findClass_of_methodNamed B.named
  have hlocks := B.notSynchronized
  subst hsz
  have hD := hD0.self (sz := s.heap.size)
  rw [lg_entry_eq]
  refine body p e s m _ below meth c (va_A W0 s.heap.size) _ ⟨hx, hb, hml, hown', hts⟩ hK hG (fun q h => Or.inr h) ?_ s.heap [] hP hD va_S.rf _ (lv_entry av hsl)
  intro pc ls H locs r' W' e1 e2 hn hdg hP' hD' hS'
  subst e1; subst e2
  exact W.zret (ty := ty) hx hb hr hn (fun t ht hW => ⟨⟨r', (), rfl, rfl, by rw [ht]; exact hP', hD'⟩, hS'.F ht⟩) hS'.2.2 hdg
theorem mkM_v {l : Launch} {y : MethodName} {wsy ws' : List Cond} {rm : Room} {cc : ByteArray} {maxL : Nat} {own : String} {D : va_G} {tys : List (ClassId × FieldType)} {av : List Value} {W0 W1 : va_W} {sz : Nat}
    (hy : plainName y.cls = true) (hw : wsy = Cond.code y cc maxL none :: ws') (hown : y.cls = own) (hsl : (lg_sl av).length ≤ maxL)
    (body : ∀ (p : Program) (e : Env) (s : State) (m : MethodId) (args : Array Value) (below : List Frame) (meth : Method) (c : Code) (A : Nat → Prop) (Q : State → Prop), CallFix p m c cc maxL s args wsy own → va_K D vwCl tys s → gS s → (∀ q, s.heap.size ≤ q → A q) →
      (∀ (pc : Nat) (ls : Array Slot) (H : Heap) (locs : List Loc) (W' : va_W), W' = W1 → decode cc pc = .ok (.return_, 1) → va_P D vwCl W' H → va_D A W' → va_S A s.heap H locs → W p l e rm s m args below meth c H locs 0 0 Q (F0 m pc ls [])) →
      Bk p l e rm s m args below meth c Q A D maxL 0 0 W0 (lv_args 0 av) 0 []) :
    Met l y wsy rm (mP D tys av W0 sz) (mQv D W0 W1 sz) 0 0 (va_A W0 sz) := by
  refine Met.ofW (cc := cc) (maxL := maxL) (ret := none) hy hw ?_
  intro p e s m args below meth c s₁ B hml hv
  obtain ⟨rfl, hsz, hP, hK, hD0, hG⟩ := hv
  have hx := B.exec
  have hb := B.bytes
  have hr := B.returns
  have hts := atoms_spec (ws := wsy) B.pre
  have hown' : s.vm.findClass own = some m.cls := by rw [← hown]; exact findClass_of_methodNamed B.named
  have hlocks := B.notSynchronized
  subst hsz
  have hD := hD0.self (sz := s.heap.size)
  rw [lg_entry_eq]
  refine body p e s m _ below meth c (va_A W0 s.heap.size) _ ⟨hx, hb, hml, hown', hts⟩ hK hG (fun q h => Or.inr h) ?_ s.heap [] hP hD va_S.rf _ (lv_entry av hsl)
  intro pc ls H locs W' e2 hdg hP' hD' hS'
  subst e2
  exact W.vret hx hb hr (fun t ht hW => ⟨⟨(), rfl, trivial, by rw [ht]; exact hP', hD'⟩, hS'.F ht⟩) hS'.2.2 hdg

/-! ===== constructors ===== -/
theorem Cut.last (ws : va_W) (c : Nat × va_E) (w1 : va_W) : Cut (ws ++ [c]) [c] w1 (ws ++ w1) := by
  refine ⟨[ws.length], List.range' 0 ws.length, List.range' 0 (ws ++ w1).length, ws, by simp, ?_, nd_from _ _, ?_, rfl, nd_from _ _, map_all _⟩
  · apply List.ext_getElem?
    intro i
    by_cases h : i < ws.length
    · simp [List.getElem?_map, h, List.getElem?_append_left]
    · simp [List.getElem?_map, h]
  · intro i h hc
    rw [List.mem_range'_1] at h
    simp at hc
    omega
abbrev mQn (D : va_G) (Ok : (Nat → Nat) → Prop) (Wf : (Nat → Nat) → va_W) (W0 : va_W) (sz : Nat) : Array Value → State → Outcome → State → Prop := va_Qv (fun (A' : Nat → Nat) => Ok A') (fun A' t => va_P D vwCl (Wf A') t.heap ∧ va_D (va_A W0 sz) (Wf A')) (va_A W0 sz)
section CLN
variable {p : Program} {l : Launch} {e : Env} {R : Room} {s : State} {m : MethodId} {args : Array Value} {below : List Frame} {meth : Method} {c : Code} {Q : State → Prop} {A : Nat → Prop} {D : va_G} {H : Heap} {locs : List Loc}
theorem cl_n {ws : va_W} {c0 : Nat × va_E} {Ok : (Nat → Nat) → Prop} {Wf : (Nat → Nat) → va_W} {pc : Nat} {ls : Array Slot} {st0 rest : List Value} {a : Array Value} {mc ms cells slots : Nat}
    (hr : va_Run p l e R s m args below meth c H locs cells slots mc ms (F0 m pc ls st0) rest (mQn D Ok Wf [c0] H.size a) (va_A [c0] H.size))
    (hP : va_P D vwCl (ws ++ [c0]) H) (hD : va_D A (ws ++ [c0])) (hS : va_S A s.heap H locs) (hA : ∀ q, s.heap.size ≤ q → A q)
    (kk : ∀ (A' : Nat → Nat) (H1 : Heap) (locs1 : List Loc), Ok A' → va_P D vwCl (ws ++ Wf A') H1 → va_D A (ws ++ Wf A') → va_S A s.heap H1 locs1 → W p l e R s m args below meth c H1 locs1 (cells + mc) (slots + ms) Q (F0 m (pc + 3) ls rest)) : W p l e R s m args below meth c H locs cells slots Q (F0 m pc ls st0) := by
  have hF := (Cut.last ws c0 []).free hD hS hA
  refine va_callv hr hS (fun q _ h => hF q h) hF (fun A' t H1 locs1 ht hvm hw hB hz1 hk1 hS1 => ?_)
  obtain ⟨hP1, hD1⟩ := hB
  rw [ht] at hP1
  obtain ⟨j1, j2⟩ := (Cut.last ws c0 (Wf A')).post hP hD hS hA hk1 hP1 hD1
  exact kk A' H1 locs1 hw j1 j2 hS1
theorem nw_i {cc : ByteArray} {pc : Nat} {ls : Array Slot} {rest : List Value} {tys : List (ClassId × FieldType)} {cells slots : Nat} {ws : va_W} {H0 : Heap} (hexec : p.tables.exec = Jvm.exec) (hb : c.code = cc) (harr : (Cond.arrayClass .int).before args s = true) (hK : va_K D vwCl tys s) (hP : va_P D vwCl ws H) (hD : va_D A ws) (hS : va_S A H0 H locs) (hA : ∀ q, H0.size ≤ q → A q)
    (t0 : Nat) {cI : ClassId} (ht : tys[t0]? = some (cI, .int)) {n : Int32} (N : Nat) (hn : ¬ n < 0) (hN : n.toNatClampNeg = N) (hbytes : N * componentBytes .int ≤ 536870912) (hcells : cells + 1 ≤ R.cells) (hslots : slots + N ≤ R.slots) (hdg : decode cc pc = .ok (.newarray .int, 2))
    (kk : ∀ (q : Nat) (H1 : Heap), va_P D vwCl (ws ++ [(q, .inl (cI, N, .inl (fun _ => 0)))]) H1 → va_D A (ws ++ [(q, .inl (cI, N, .inl (fun _ => 0)))]) → va_S A H0 H1 locs → W p l e R s m args below meth c H1 locs (cells + 1) (slots + N) Q (F0 m (pc + 2) ls (.ref q :: rest))) : W p l e R s m args below meth c H locs cells slots Q (F0 m pc ls (.int n :: rest)) := by
  refine va_newa (atype := .int) (ty := .int) hexec hb harr rfl hK hP hD hS hA (a0 := (N, .inl (fun _ => 0))) (fun cA => rfl) hn hN hbytes hcells hslots hdg (fun q cA H1 hK' hP' hD' hS' => ?_)
  have h1 : s.vm.findClass ("[" ++ (FieldType.int).toString) = some cA := (hK'.2 tys.length (cA, .int) (by simp)).2
  have h2 : s.vm.findClass ("[" ++ (FieldType.int).toString) = some cI := (hK.2 t0 _ ht).2
  rw [h2] at h1
  cases Option.some.inj h1
  exact kk q H1 hP' hD' hS'
theorem nw_z {cc : ByteArray} {pc : Nat} {ls : Array Slot} {rest : List Value} {tys : List (ClassId × FieldType)} {cells slots : Nat} {ws : va_W} {H0 : Heap} (hexec : p.tables.exec = Jvm.exec) (hb : c.code = cc) (harr : (Cond.arrayClass .boolean).before args s = true) (hK : va_K D vwCl tys s) (hP : va_P D vwCl ws H) (hD : va_D A ws) (hS : va_S A H0 H locs) (hA : ∀ q, H0.size ≤ q → A q)
    (t0 : Nat) {cI : ClassId} (ht : tys[t0]? = some (cI, .boolean)) {n : Int32} (N : Nat) (hn : ¬ n < 0) (hN : n.toNatClampNeg = N) (hbytes : N * componentBytes .boolean ≤ 536870912) (hcells : cells + 1 ≤ R.cells) (hslots : slots + N ≤ R.slots) (hdg : decode cc pc = .ok (.newarray .boolean, 2))
    (kk : ∀ (q : Nat) (H1 : Heap), va_P D vwCl (ws ++ [(q, .inl (cI, N, .inl (fun _ => 0)))]) H1 → va_D A (ws ++ [(q, .inl (cI, N, .inl (fun _ => 0)))]) → va_S A H0 H1 locs → W p l e R s m args below meth c H1 locs (cells + 1) (slots + N) Q (F0 m (pc + 2) ls (.ref q :: rest))) : W p l e R s m args below meth c H locs cells slots Q (F0 m pc ls (.int n :: rest)) := by
  refine va_newa (atype := .boolean) (ty := .boolean) hexec hb harr rfl hK hP hD hS hA (a0 := (N, .inl (fun _ => 0))) (fun cA => rfl) hn hN hbytes hcells hslots hdg (fun q cA H1 hK' hP' hD' hS' => ?_)
  have h1 : s.vm.findClass ("[" ++ (FieldType.boolean).toString) = some cA := (hK'.2 tys.length (cA, .boolean) (by simp)).2
  have h2 : s.vm.findClass ("[" ++ (FieldType.boolean).toString) = some cI := (hK.2 t0 _ ht).2
  rw [h2] at h1
  cases Option.some.inj h1
  exact kk q H1 hP' hD' hS'
end CLN
theorem mkN {l : Launch} {y : MethodName} {wsy ws' : List Cond} {rm : Room} {cc : ByteArray} {maxL mc ms : Nat} {own : String} {D : va_G} {tys : List (ClassId × FieldType)} {av : List Value} {W0 : va_W} {sz : Nat} {Ok : (Nat → Nat) → Prop} {Wf : (Nat → Nat) → va_W}
    (hy : plainName y.cls = true) (hw : wsy = Cond.code y cc maxL none :: ws') (hown : y.cls = own) (hsl : (lg_sl av).length ≤ maxL) (hnm : y.name = "<init>")
    (body : ∀ (p : Program) (e : Env) (s : State) (m : MethodId) (args : Array Value) (below : List Frame) (meth : Method) (c : Code) (A : Nat → Prop) (Q : State → Prop), CallFix p m c cc maxL s args wsy own → va_K D vwCl tys s → gS s → (∀ q, s.heap.size ≤ q → A q) → meth.name = "<init>" →
      (∀ (pc : Nat) (ls : Array Slot) (H : Heap) (locs : List Loc) (A' : Nat → Nat) (W' : va_W), Ok A' → W' = Wf A' → decode cc pc = .ok (.return_, 1) → va_P D vwCl W' H → va_D A W' → va_S A s.heap H locs → W p l e rm s m args below meth c H locs mc ms Q (F0 m pc ls [])) →
      Bk p l e rm s m args below meth c Q A D maxL 0 0 W0 (lv_args 0 av) 0 []) :
    Met l y wsy rm (mP D tys av W0 sz) (mQn D Ok Wf W0 sz) mc ms (va_A W0 sz) := by
  refine Met.ofW (cc := cc) (maxL := maxL) (ret := none) hy hw ?_
  intro p e s m args below meth c s₁ B hml hv
  obtain ⟨rfl, hsz, hP, hK, hD0, hG⟩ := hv
  have hx := B.exec
  have hb := B.bytes
  have hr := B.returns
  have hts := atoms_spec (ws := wsy) B.pre
  have hown' : s.vm.findClass own = some m.cls := by rw [← hown]; exact findClass_of_methodNamed B.named
  have hlocks := B.notSynchronized
  have hin : meth.name = "<init>" := by rw [← hnm]; exact (name_of_methodNamed B.named B.method).1
  subst hsz
  have hD := hD0.self (sz := s.heap.size)
  rw [lg_entry_eq]
  refine body p e s m _ below meth c (va_A W0 s.heap.size) _ ⟨hx, hb, hml, hown', hts⟩ hK hG (fun q h => Or.inr h) hin ?_ s.heap [] hP hD va_S.rf _ (lv_entry av hsl)
  intro pc ls H locs A' W' e1 e2 hdg hP' hD' hS'
  subst e2
  exact W.vret hx hb hr (fun t ht hW => ⟨⟨A', rfl, e1, by rw [ht]; exact hP', hD'⟩, hS'.F ht⟩) hS'.2.2 hdg

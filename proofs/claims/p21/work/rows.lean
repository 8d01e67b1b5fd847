section
-- ===== PART A: goes FIRST, ahead of the names: the tables' words, and 'selects' of the private methods out of them =====
/-- a private method of a class that the tables say can be made, by its rows of tables_1 -/
def lw_okq (q : MethodName × Nat) : Prop := (q.1.cls ≠ "java/lang/invoke/MethodHandle" ∧ q.1.cls ≠ "java/lang/invoke/VarHandle") ∧ Cond.instantiable q.1.cls q.2 ∈ tables_1 ∧ Cond.privateMethod q.1 ∈ tables_1 ∧ Cond.instanceMethod q.1 ∈ tables_1
theorem lw_p0 : lw_okq (⟨"java/lang/Throwable", "fillInStackTrace", "(I)Ljava/lang/Throwable;"⟩, 6) := ⟨⟨by decide +kernel, by decide +kernel⟩, List.mem_of_getElem? (i := 264) (by decide +kernel), List.mem_of_getElem? (i := 262) (by decide +kernel), List.mem_of_getElem? (i := 263) (by decide +kernel)⟩
theorem lw_p1 : lw_okq (⟨"SwitchFloor", "passBeat", "()V"⟩, 10) := ⟨⟨by decide +kernel, by decide +kernel⟩, List.mem_of_getElem? (i := 14) (by decide +kernel), List.mem_of_getElem? (i := 298) (by decide +kernel), List.mem_of_getElem? (i := 299) (by decide +kernel)⟩
theorem lw_p2 : lw_okq (⟨"SwitchFloor$Tree", "tell", "()V"⟩, 16) := ⟨⟨by decide +kernel, by decide +kernel⟩, List.mem_of_getElem? (i := 65) (by decide +kernel), List.mem_of_getElem? (i := 306) (by decide +kernel), List.mem_of_getElem? (i := 307) (by decide +kernel)⟩
theorem lw_p3 : lw_okq (⟨"SwitchFloor$Tree", "guardForHouses", "()V"⟩, 16) := ⟨⟨by decide +kernel, by decide +kernel⟩, List.mem_of_getElem? (i := 65) (by decide +kernel), List.mem_of_getElem? (i := 318) (by decide +kernel), List.mem_of_getElem? (i := 319) (by decide +kernel)⟩
theorem lw_p4 : lw_okq (⟨"SwitchFloor$Tree", "takeBest", "(I)V"⟩, 16) := ⟨⟨by decide +kernel, by decide +kernel⟩, List.mem_of_getElem? (i := 65) (by decide +kernel), List.mem_of_getElem? (i := 330) (by decide +kernel), List.mem_of_getElem? (i := 331) (by decide +kernel)⟩
theorem lw_p5 : lw_okq (⟨"SwitchFloor$Tree", "offer", "(II)V"⟩, 16) := ⟨⟨by decide +kernel, by decide +kernel⟩, List.mem_of_getElem? (i := 65) (by decide +kernel), List.mem_of_getElem? (i := 337) (by decide +kernel), List.mem_of_getElem? (i := 338) (by decide +kernel)⟩
theorem lw_p6 : lw_okq (⟨"SwitchFloor$Tree", "isBetterThanHeld", "(II)Z"⟩, 16) := ⟨⟨by decide +kernel, by decide +kernel⟩, List.mem_of_getElem? (i := 65) (by decide +kernel), List.mem_of_getElem? (i := 341) (by decide +kernel), List.mem_of_getElem? (i := 342) (by decide +kernel)⟩
theorem lw_p7 : lw_okq (⟨"SwitchFloor$Tree", "turn", "(I)V"⟩, 16) := ⟨⟨by decide +kernel, by decide +kernel⟩, List.mem_of_getElem? (i := 65) (by decide +kernel), List.mem_of_getElem? (i := 349) (by decide +kernel), List.mem_of_getElem? (i := 350) (by decide +kernel)⟩
theorem lw_p8 : lw_okq (⟨"SwitchFloor$Tree", "roleOf", "(I)I"⟩, 16) := ⟨⟨by decide +kernel, by decide +kernel⟩, List.mem_of_getElem? (i := 65) (by decide +kernel), List.mem_of_getElem? (i := 353) (by decide +kernel), List.mem_of_getElem? (i := 354) (by decide +kernel)⟩
theorem lw_p9 : lw_okq (⟨"SwitchFloor$Tree", "isHeldBetter", "(I)Z"⟩, 16) := ⟨⟨by decide +kernel, by decide +kernel⟩, List.mem_of_getElem? (i := 65) (by decide +kernel), List.mem_of_getElem? (i := 357) (by decide +kernel), List.mem_of_getElem? (i := 358) (by decide +kernel)⟩
theorem lw_p10 : lw_okq (⟨"SwitchFloor$Tree", "turnTo", "(IZ)V"⟩, 16) := ⟨⟨by decide +kernel, by decide +kernel⟩, List.mem_of_getElem? (i := 65) (by decide +kernel), List.mem_of_getElem? (i := 361) (by decide +kernel), List.mem_of_getElem? (i := 362) (by decide +kernel)⟩
theorem lw_p11 : lw_okq (⟨"SwitchFloor$Tree", "spreadStale", "()V"⟩, 16) := ⟨⟨by decide +kernel, by decide +kernel⟩, List.mem_of_getElem? (i := 65) (by decide +kernel), List.mem_of_getElem? (i := 365) (by decide +kernel), List.mem_of_getElem? (i := 366) (by decide +kernel)⟩
theorem lw_p12 : lw_okq (⟨"SwitchFloor$Tree", "endStorms", "()V"⟩, 16) := ⟨⟨by decide +kernel, by decide +kernel⟩, List.mem_of_getElem? (i := 65) (by decide +kernel), List.mem_of_getElem? (i := 369) (by decide +kernel), List.mem_of_getElem? (i := 370) (by decide +kernel)⟩
theorem lw_p13 : lw_okq (⟨"SwitchFloor$Tables", "drop", "(I)V"⟩, 3) := ⟨⟨by decide +kernel, by decide +kernel⟩, List.mem_of_getElem? (i := 144) (by decide +kernel), List.mem_of_getElem? (i := 385) (by decide +kernel), List.mem_of_getElem? (i := 386) (by decide +kernel)⟩
theorem lw_p14 : lw_okq (⟨"SwitchFloor", "dropUse", "(I)V"⟩, 10) := ⟨⟨by decide +kernel, by decide +kernel⟩, List.mem_of_getElem? (i := 14) (by decide +kernel), List.mem_of_getElem? (i := 481) (by decide +kernel), List.mem_of_getElem? (i := 482) (by decide +kernel)⟩
theorem lw_p15 : lw_okq (⟨"SwitchFloor", "shutUntil", "(II)V"⟩, 10) := ⟨⟨by decide +kernel, by decide +kernel⟩, List.mem_of_getElem? (i := 14) (by decide +kernel), List.mem_of_getElem? (i := 518) (by decide +kernel), List.mem_of_getElem? (i := 519) (by decide +kernel)⟩
def lw_privs_1 : List (MethodName × Nat) := [(⟨"java/lang/Throwable", "fillInStackTrace", "(I)Ljava/lang/Throwable;"⟩, 6), (⟨"SwitchFloor", "passBeat", "()V"⟩, 10), (⟨"SwitchFloor$Tree", "tell", "()V"⟩, 16), (⟨"SwitchFloor$Tree", "guardForHouses", "()V"⟩, 16), (⟨"SwitchFloor$Tree", "takeBest", "(I)V"⟩, 16), (⟨"SwitchFloor$Tree", "offer", "(II)V"⟩, 16), (⟨"SwitchFloor$Tree", "isBetterThanHeld", "(II)Z"⟩, 16), (⟨"SwitchFloor$Tree", "turn", "(I)V"⟩, 16), (⟨"SwitchFloor$Tree", "roleOf", "(I)I"⟩, 16), (⟨"SwitchFloor$Tree", "isHeldBetter", "(I)Z"⟩, 16), (⟨"SwitchFloor$Tree", "turnTo", "(IZ)V"⟩, 16), (⟨"SwitchFloor$Tree", "spreadStale", "()V"⟩, 16), (⟨"SwitchFloor$Tree", "endStorms", "()V"⟩, 16), (⟨"SwitchFloor$Tables", "drop", "(I)V"⟩, 3), (⟨"SwitchFloor", "dropUse", "(I)V"⟩, 10), (⟨"SwitchFloor", "shutUntil", "(II)V"⟩, 10)]
theorem lw_r1 : ∀ q ∈ lw_privs_1, lw_okq q := List.forall_mem_cons.mpr ⟨lw_p0, List.forall_mem_cons.mpr ⟨lw_p1, List.forall_mem_cons.mpr ⟨lw_p2, List.forall_mem_cons.mpr ⟨lw_p3, List.forall_mem_cons.mpr ⟨lw_p4, List.forall_mem_cons.mpr ⟨lw_p5, List.forall_mem_cons.mpr ⟨lw_p6, List.forall_mem_cons.mpr ⟨lw_p7, List.forall_mem_cons.mpr ⟨lw_p8, List.forall_mem_cons.mpr ⟨lw_p9, List.forall_mem_cons.mpr ⟨lw_p10, List.forall_mem_cons.mpr ⟨lw_p11, List.forall_mem_cons.mpr ⟨lw_p12, List.forall_mem_cons.mpr ⟨lw_p13, List.forall_mem_cons.mpr ⟨lw_p14, List.forall_mem_cons.mpr ⟨lw_p15, fun _ h => absurd h List.not_mem_nil⟩⟩⟩⟩⟩⟩⟩⟩⟩⟩⟩⟩⟩⟩⟩⟩
theorem lw_p16 : lw_okq (⟨"SwitchFloor", "takeStep", "(III)I"⟩, 10) := ⟨⟨by decide +kernel, by decide +kernel⟩, List.mem_of_getElem? (i := 14) (by decide +kernel), List.mem_of_getElem? (i := 566) (by decide +kernel), List.mem_of_getElem? (i := 567) (by decide +kernel)⟩
theorem lw_p17 : lw_okq (⟨"SwitchFloor", "laneLetIn", "(II)I"⟩, 10) := ⟨⟨by decide +kernel, by decide +kernel⟩, List.mem_of_getElem? (i := 14) (by decide +kernel), List.mem_of_getElem? (i := 570) (by decide +kernel), List.mem_of_getElem? (i := 571) (by decide +kernel)⟩
theorem lw_p18 : lw_okq (⟨"SwitchFloor", "flood", "(III)I"⟩, 10) := ⟨⟨by decide +kernel, by decide +kernel⟩, List.mem_of_getElem? (i := 14) (by decide +kernel), List.mem_of_getElem? (i := 594) (by decide +kernel), List.mem_of_getElem? (i := 595) (by decide +kernel)⟩
theorem lw_p19 : lw_okq (⟨"SwitchFloor", "goOut", "(IIII)I"⟩, 10) := ⟨⟨by decide +kernel, by decide +kernel⟩, List.mem_of_getElem? (i := 14) (by decide +kernel), List.mem_of_getElem? (i := 598) (by decide +kernel), List.mem_of_getElem? (i := 599) (by decide +kernel)⟩
theorem lw_p20 : lw_okq (⟨"SwitchFloor", "handOver", "(II)I"⟩, 10) := ⟨⟨by decide +kernel, by decide +kernel⟩, List.mem_of_getElem? (i := 14) (by decide +kernel), List.mem_of_getElem? (i := 603) (by decide +kernel), List.mem_of_getElem? (i := 604) (by decide +kernel)⟩
theorem lw_p21 : lw_okq (⟨"SwitchFloor$Tree", "shorten", "(II)V"⟩, 16) := ⟨⟨by decide +kernel, by decide +kernel⟩, List.mem_of_getElem? (i := 65) (by decide +kernel), List.mem_of_getElem? (i := 637) (by decide +kernel), List.mem_of_getElem? (i := 638) (by decide +kernel)⟩
theorem lw_p22 : lw_okq (⟨"SwitchFloor", "wayTold", "(III)I"⟩, 10) := ⟨⟨by decide +kernel, by decide +kernel⟩, List.mem_of_getElem? (i := 14) (by decide +kernel), List.mem_of_getElem? (i := 648) (by decide +kernel), List.mem_of_getElem? (i := 649) (by decide +kernel)⟩
def lw_privs_2 : List (MethodName × Nat) := [(⟨"SwitchFloor", "takeStep", "(III)I"⟩, 10), (⟨"SwitchFloor", "laneLetIn", "(II)I"⟩, 10), (⟨"SwitchFloor", "flood", "(III)I"⟩, 10), (⟨"SwitchFloor", "goOut", "(IIII)I"⟩, 10), (⟨"SwitchFloor", "handOver", "(II)I"⟩, 10), (⟨"SwitchFloor$Tree", "shorten", "(II)V"⟩, 16), (⟨"SwitchFloor", "wayTold", "(III)I"⟩, 10)]
theorem lw_r2 : ∀ q ∈ lw_privs_2, lw_okq q := List.forall_mem_cons.mpr ⟨lw_p16, List.forall_mem_cons.mpr ⟨lw_p17, List.forall_mem_cons.mpr ⟨lw_p18, List.forall_mem_cons.mpr ⟨lw_p19, List.forall_mem_cons.mpr ⟨lw_p20, List.forall_mem_cons.mpr ⟨lw_p21, List.forall_mem_cons.mpr ⟨lw_p22, fun _ h => absurd h List.not_mem_nil⟩⟩⟩⟩⟩⟩⟩
def lw_privs : List (MethodName × Nat) := lw_privs_1 ++ (lw_privs_2)
def lw_tbl : List Cond := k2_sels lw_privs ++ tables_1
theorem lw_privs_ok : ∀ q ∈ lw_privs, lw_okq q := by
  show ∀ q ∈ lw_privs_1 ++ (lw_privs_2), lw_okq q
  exact List.forall_mem_append.mpr ⟨lw_r1, lw_r2⟩
/-! ===== BEGIN words of one list among another's, by their places ===== -/
theorem goodIn_r {big : List Cond} (ws : List Cond) (ps : List Nat) (hp : ws = ps.filterMap (fun i => big[i]?)) (h : ws.all goodWord = true) : GoodIn big ws := by
  intro w hw
  have h1 := List.all_eq_true.mp h w hw
  rw [hp] at hw
  obtain ⟨i, -, hi⟩ := List.mem_filterMap.mp hw
  have hm : w ∈ big := by first | exact List.mem_of_getElem? hi | exact List.getElem?_mem hi
  exact ⟨hm, good_of_word h1⟩
theorem goodIn_app {big a b : List Cond} (ha : GoodIn big a) (hb : GoodIn big b) : GoodIn big (a ++ b) := fun w h => (List.mem_append.mp h).elim (ha w) (hb w)
theorem goodIn_ca {big a b : List Cond} {c : Cond} (ha : GoodIn big (c :: a)) (hb : GoodIn big b) : GoodIn big (c :: (a ++ b)) := fun w h => (List.mem_cons.mp h).elim (fun e => ha w (List.mem_cons.mpr (Or.inl e))) (fun h => (List.mem_append.mp h).elim (fun h => ha w (List.mem_cons.mpr (Or.inr h))) (hb w))
theorem goodIn_sub {big ws : List Cond} (hm : ∀ w ∈ ws, w ∈ big) (h : ws.all goodWord = true) : GoodIn big ws := fun w hw => ⟨hm w hw, good_of_word (List.all_eq_true.mp h w hw)⟩
/-! ===== END ===== -/

/-! ===== BEGIN exceptions that leave a method, and their catching by the caller (launches without stack traces) ===== -/
section VXA
/-! The laws vx_back, vx_callV, vx_callS, vx_callSW, vx_throw0, vx_throwS follow proofs of the library, with one case more: JvmDerived/Free/Laws.lean (Back.of_free), Shelf42/LK1.lean (callV, callS), Shelf/KitTraced.lean (throwNew0V, throwNewS). -/
/-- where a method has thrown q: the class by its name, the cell, what was written, the world -/
def vx_T (XC : String → State → State → Prop) (st : State) (q : Addr) (t : State) (mc ms : Nat) (free : Addr → Prop) : Prop :=
  ∃ (E : String) (ce : Cell) (L : List Loc), XC E st t ∧ t.heap[q]? = some ce ∧ ce.vm = .none ∧ st.vm.findClass E = some ce.cls ∧ st.WarmedH t.vm ∧ st.sameButNew ({ t with vm := st.vm } : State) L mc ms ∧ ∀ z ∈ L, free z.base
def vx_Q (Qc : Array Value → State → Outcome → State → Prop) (XC : String → State → State → Prop) (mc ms : Nat) (free : Addr → Prop) : Array Value → State → Outcome → State → Prop := fun a st o t =>
  (Qc a st o t ∧ ∃ L, FrameEnd st o t L mc ms ∧ ∀ q ∈ L, free q.base) ∨ ∃ q, o = .threw q ∧ vx_T XC st q t mc ms free
/-- a callee that returns or throws -/
def vx_Met (l : Launch) (y : MethodName) (ws : List Cond) (rm : Room) (Pc : Array Value → State → Prop) (Qc : Array Value → State → Outcome → State → Prop) (XC : String → State → State → Prop) (mc ms : Nat) (free : Addr → Prop) : Prop :=
  MetFree l y (headSpec ws rm) Pc (fun _ _ _ _ _ => True) (vx_Q Qc XC mc ms free)
def vx_Post (XC : String → State → State → Prop) (mc ms : Nat) (free : Addr → Prop) : Pt → Array Value → Addr → Pt → Prop := fun A a q B =>
  ∃ (g : JFrame) (mk : MethodId) (t : State) (L : List Loc) (E : String) (ce : Cell), B.U.heap = t.heap ∧ B.U.vm = t.vm ∧ XC E (A.U.calling g mk a) t ∧ t.heap[q]? = some ce ∧ ce.vm = .none ∧ A.U.vm.findClass E = some ce.cls ∧ B.locs = A.locs ++ L ∧ (∀ z ∈ L, free z.base) ∧ B.cells = A.cells + mc ∧ B.slots = A.slots + ms
def vx_Back (l : Launch) (R : Room) (p : Program) (e : Env) (below : List Frame) (s : State) (sargs : Array Value) (y : MethodName) (len W9 : Nat)
    (Pre : Pt → Array Value → Prop) (Post : Pt → Array Value → Option Value → Pt → Prop) (PostX : Pt → Array Value → Addr → Pt → Prop) : Prop :=
  ∀ (m : MethodId) (meth : Method) (c : Code) (A : Pt) (g : JFrame) (ig : Instr) (mk : MethodId) (a : Array Value),
    Stand p l e R s m sargs below meth c A.U A.locs A.cells A.slots → g.method = m → g.locals.size = c.maxLocals → decode c.code g.pc = .ok (ig, len) →
    2 * g.monitorRoom + (g.stack.map fun v => v.category).sum ≤ W9 → A.U.methodNamed? y = some mk → Pre A a →
    (∃ (v : Option Value) (B : Pt), Stand p l e R s m sargs below meth c B.U B.locs B.cells B.slots ∧ Post A a v B ∧
      Steps p.tables e below (doInvoke e (A.U.setTop g) [] mk a).1 (B.U.setTop { g with pc := g.pc + len, stack := v.toList ++ g.stack })) ∨
    (∃ (q : Addr) (B : Pt), Stand p l e R s m sargs below meth c B.U B.locs B.cells B.slots ∧ PostX A a q B ∧
      Steps p.tables e below (doInvoke e (A.U.setTop g) [] mk a).1 ((B.U.setTop g).pushFrame (.throwing q)))
section Payer
variable {l : Launch} {R : Room} {p : Program} {e : Env} {below : List Frame} {s : State} {sargs : Array Value} {y : MethodName} {len W9 : Nat}
theorem vx_back {ws : List Cond} {rm : Room} {Pc : Array Value → State → Prop} {Qc : Array Value → State → Outcome → State → Prop} {XC : String → State → State → Prop} {mc ms : Nat} {free : Addr → Prop} {bytes : ByteArray} {maxL : Nat} {ret : Option FieldType}
    (hM : vx_Met l y ws rm Pc Qc XC mc ms free) (hblind : FrameBlind Pc) (hrc : rm.cells = mc) (hrs : rm.slots = ms)
    (hframes : rm.frames + 1 ≤ R.frames) (hlocals : W9 + (maxL + 11) + rm.locals ≤ R.locals)
    (hws : ∀ w ∈ ws, ∀ a' U, s.WarmedH U.vm → w.before a' U = true) (hcode : Cond.code y bytes maxL ret ∈ ws) (hinit : ∀ a' U, s.WarmedH U.vm → (Cond.initialized y.cls).before a' U = true) :
    vx_Back l R p e below s sargs y len W9 (PreOf R mc ms Pc) (PostOf Qc mc ms free) (vx_Post XC mc ms free) := by
  intro m meth c A g ig mk a X hg hsize hdg hW hn hp
  have h1 : (headSpec ws rm).pre.before a A.U = true := atoms_intro fun w hw => hws w hw _ _ X.warmed
  have h2 : (Cond.code y bytes maxL ret).before a A.U = true := hws _ hcode _ _ X.warmed
  have h3 : (Cond.initialized y.cls).before a A.U = true := hinit _ _ X.warmed
  have h4 : A.cells + (headSpec ws rm).room.cells ≤ R.cells := by rw [show (headSpec ws rm).room.cells = mc from hrc]; exact hp.1
  have h5 : A.slots + (headSpec ws rm).room.slots ≤ R.slots := by rw [show (headSpec ws rm).room.slots = ms from hrs]; exact hp.2.1
  have hPc : Pc a (A.U.calling g mk a) := hblind _ _ _ _ hp.2.2
  obtain ⟨U, Ls, c0, s0⟩ := A
  dsimp only [Pt.U, Pt.locs, Pt.cells, Pt.slots] at h1 h2 h3 h4 h5 X hn hPc ⊢
  obtain ⟨methY, cY, hmY, hcY, -, hlY, -, -, -, -⟩ := Cond.code_spec hn h2
  obtain ⟨kY, hkY, -⟩ := className_of_methodNamed hn
  have hinitY : kY.init = .initialized := Cond.initialized_spec (findClass_of_methodNamed hn) hkY h3
  have h : At U g.method c below := by rw [hg]; exact X.here
  have hlocals9 : W9 + (maxL + 11) + (headSpec ws rm).room.locals ≤ R.locals := hlocals
  have happ : (headSpec ws rm).appliesLoose y e.platform (U.calling g mk a) = true :=
    Spec.appliesLoose_calling (g := g) h hdg hn hkY hinitY
      (X.room_calling (g := g) (R' := (headSpec ws rm).room) hsize hmY hcY hframes (by rw [hlY]; omega) h4 h5) h1
  obtain ⟨mid, hmid⟩ := h.above
  have hfr : (U.setTop g).frames = (.java g :: mid) ++ below := by rw [State.frames_setTop' g h.top, hmid]; rfl
  obtain ⟨o, s₂, hsteps, -, hend, hq⟩ := Steps.callFree hM p X.admits X.cas X.clock (acts := []) hfr happ hPc trivial
  have hq' : vx_Q Qc XC mc ms free a (U.calling g mk a) o s₂ := hq
  rw [State.frames_setTop' g h.top] at hend
  obtain ⟨g₀, hg0⟩ := Option.isSome_iff_exists.mp h.top
  obtain ⟨r, hr⟩ := State.topJava?_eq_some.mp hg0
  have hr' : (({ U with heap := s₂.heap, slotsUsed := s₂.slotsUsed } : State).setVm s₂.vm).frames = .java g₀ :: r := hr
  rcases hq' with ⟨hqc, L, hfe, hL⟩ | ⟨q, rfl, E, ce, L, hx, hce, hcv, hcl, hW₂, hsm, hL⟩
  · obtain ⟨⟨v, rfl⟩, hW₂, e2, q2, q3, q4, q5, q6⟩ := id hfe
    have e3 : s₂ = ({ (U.calling g mk a).setFrames s₂.frames with heap := s₂.heap, slotsUsed := s₂.slotsUsed } : State).setVm s₂.vm := by
      have : s₂ = ({ s₂ with vm := (U.calling g mk a).vm } : State).setVm s₂.vm := rfl
      rw [e2] at this
      exact this
    obtain ⟨c₂, i₂, len₂, hc₂, hd₂, hf₂⟩ := hend
    have hW' : U.WarmedH s₂.vm := hW₂
    have hcc : c₂ = c := by
      have h1 : s₂.code? g.method = U.code? g.method := by
        rw [State.code?_eq, State.code?_eq, hW'.alike.method?]
      exact Option.some.inj (hc₂.symm.trans (h1.trans h.code))
    subst hcc
    have hlen : len₂ = len := by rw [hdg] at hd₂; cases hd₂; rfl
    subst hlen
    have hs₂ : s₂ = (({ U with heap := s₂.heap, slotsUsed := s₂.slotsUsed } : State).setVm s₂.vm).setTop { g with pc := g.pc + len₂, stack := v.toList ++ g.stack } := by
      refine e3.trans ?_
      rw [hf₂, State.calling_eq h.top, State.setFrames_setFrames, State.setTop_of_frames _ hr', hr]
      rfl
    have hsame : U.sameButNew ({ U with heap := s₂.heap, slotsUsed := s₂.slotsUsed } : State) L mc ms := by
      refine ⟨?_, q2, q3, q4, q5, q6⟩
      obtain ⟨t, ht, -⟩ := State.frames_cons hr
      show ({ U with heap := s₂.heap, slotsUsed := s₂.slotsUsed } : State) = { U.setFrames U.frames with heap := s₂.heap, slotsUsed := s₂.slotsUsed }
      rw [State.setFrames_self ht]
    subst hg
    refine Or.inl ⟨v, ⟨(({ U with heap := s₂.heap, slotsUsed := s₂.slotsUsed } : State).setVm s₂.vm), Ls ++ L, c0 + mc, s0 + ms⟩,
      ⟨X.admits, X.cas, X.clock, X.frames, X.room, X.hears, X.method, X.code, (X.here.setHeapUsed s₂.heap s₂.slotsUsed).setVm hW'.alike, X.tail, State.WarmedH.trans X.warmed hW', X.limits, X.bytes, X.same.trans (hsame.setVm s.vm)⟩,
      ⟨g, mk, s₂, L, rfl, rfl, hqc, rfl, hL, rfl, rfl⟩, ?_⟩
    show Steps p.tables e below _ ((({ U with heap := s₂.heap, slotsUsed := s₂.slotsUsed } : State).setVm s₂.vm).setTop { g with pc := g.pc + len₂, stack := v.toList ++ g.stack })
    rw [← hs₂]
    exact hsteps
  · obtain ⟨e2, q2, q3, q4, q5, q6⟩ := id hsm
    have e3 : s₂ = ({ (U.calling g mk a).setFrames s₂.frames with heap := s₂.heap, slotsUsed := s₂.slotsUsed } : State).setVm s₂.vm := by
      have : s₂ = ({ s₂ with vm := (U.calling g mk a).vm } : State).setVm s₂.vm := rfl
      rw [e2] at this
      exact this
    have hf₂ : s₂.frames = .throwing q :: .java g :: U.frames.tail := hend
    have hW' : U.WarmedH s₂.vm := hW₂
    have hs₂ : s₂ = ((({ U with heap := s₂.heap, slotsUsed := s₂.slotsUsed } : State).setVm s₂.vm).setTop g).pushFrame (.throwing q) := by
      refine e3.trans ?_
      rw [hf₂, State.calling_eq h.top, State.setFrames_setFrames, State.pushFrame, State.frames_setTop _ hr', State.setTop_of_frames _ hr', State.setFrames_setFrames, hr]
      rfl
    have hsame : U.sameButNew ({ U with heap := s₂.heap, slotsUsed := s₂.slotsUsed } : State) L mc ms := by
      refine ⟨?_, q2, q3, q4, q5, q6⟩
      obtain ⟨t, ht, -⟩ := State.frames_cons hr
      show ({ U with heap := s₂.heap, slotsUsed := s₂.slotsUsed } : State) = { U.setFrames U.frames with heap := s₂.heap, slotsUsed := s₂.slotsUsed }
      rw [State.setFrames_self ht]
    subst hg
    refine Or.inr ⟨q, ⟨(({ U with heap := s₂.heap, slotsUsed := s₂.slotsUsed } : State).setVm s₂.vm), Ls ++ L, c0 + mc, s0 + ms⟩,
      ⟨X.admits, X.cas, X.clock, X.frames, X.room, X.hears, X.method, X.code, (X.here.setHeapUsed s₂.heap s₂.slotsUsed).setVm hW'.alike, X.tail, State.WarmedH.trans X.warmed hW', X.limits, X.bytes, X.same.trans (hsame.setVm s.vm)⟩,
      ⟨g, mk, s₂, L, E, ce, rfl, rfl, hx, hce, hcv, hcl, rfl, hL, rfl, rfl⟩, ?_⟩
    show Steps p.tables e below _ (((({ U with heap := s₂.heap, slotsUsed := s₂.slotsUsed } : State).setVm s₂.vm).setTop g).pushFrame (.throwing q))
    rw [← hs₂]
    exact hsteps
end Payer
section Calls
variable {p : Program} {l : Launch} {e : Env} {R : Room} {s : State} {m : MethodId} {args : Array Value} {below : List Frame} {meth : Method} {c : Code} {T : State} {locs : List Loc} {cells slots : Nat}
theorem vx_callV (X : Stand p l e R s m args below meth c T locs cells slots) (hexec : p.tables.exec = Jvm.exec) {own C : String} {index : Nat} {y : MethodName} {bytes : ByteArray} {maxL : Nat} {ret : Option FieldType}
    (hown : s.vm.findClass own = some m.cls) (hlink : (Cond.methodLink own index y).before args s = true) (hinst : (Cond.instanceMethod y).before args s = true) (hsel : (Cond.selects C y y).before args s = true)
    (hcode : (Cond.code y bytes maxL ret).before args s = true) (hy : y.cls ≠ "java/lang/invoke/MethodHandle" ∧ y.cls ≠ "java/lang/invoke/VarHandle")
    {W9 : Nat} {Pre : Pt → Array Value → Prop} {Post : Pt → Array Value → Option Value → Pt → Prop} {PostX : Pt → Array Value → Addr → Pt → Prop} (hK : vx_Back l R p e below s args y 3 W9 Pre Post PostX)
    {b : Addr} {cellB : Cell} (hcell : T.heap[b]? = some cellB) (hobj : cellB.vm.isStatics = false) (hcls : s.vm.findClass C = some cellB.cls)
    {g : JFrame} (hg : g.method = m) (hsize : g.locals.size = c.maxLocals) {argsL rest : List Value} (hlen : ∀ sig, parseMethodDescriptor y.desc = some sig → argsL.length = sig.parameters.length)
    (hstack : g.stack = argsL.reverse ++ .ref b :: rest) (hW : 2 * g.monitorRoom + (rest.map fun v => v.category).sum ≤ W9) (hdg : decode c.code g.pc = .ok (.invokevirtual index, 3))
    (hpre : ∀ vm₁, s.WarmedH vm₁ → Pre ⟨T.setVm vm₁, locs, cells, slots⟩ (Value.ref b :: argsL).toArray) :
    (∃ (v : Option Value) (vm₁ : Vm) (B : Pt), s.WarmedH vm₁ ∧ Stand p l e R s m args below meth c B.U B.locs B.cells B.slots ∧ Post ⟨T.setVm vm₁, locs, cells, slots⟩ (Value.ref b :: argsL).toArray v B ∧
      ∀ target, Steps p.tables e below (B.U.setTop { g with pc := g.pc + 3, stack := v.toList ++ rest }) target → Steps p.tables e below (T.setTop g) target) ∨
    (∃ (q : Addr) (vm₁ : Vm) (B : Pt), s.WarmedH vm₁ ∧ Stand p l e R s m args below meth c B.U B.locs B.cells B.slots ∧ PostX ⟨T.setVm vm₁, locs, cells, slots⟩ (Value.ref b :: argsL).toArray q B ∧
      Steps p.tables e below (T.setTop g) ((B.U.setTop { g with stack := rest }).pushFrame (.throwing q))) := by
  obtain ⟨mk, methM, hnamed, hmethM, hstM, habM⟩ := Cond.instanceMethod_spec hinst
  obtain ⟨methM', cM, hmethM', -, -, -, -, -, -, hsigM⟩ := Cond.code_spec hnamed hcode
  cases hmethM.symm.trans hmethM'
  obtain ⟨c2, r2, m2, q1, q2, q3, q4, kP, hkP, hkPi⟩ := Cond.selects_spec hsel
  cases hcls.symm.trans q1
  cases (State.methodFound?_of_named hnamed hy).symm.trans q2
  cases hnamed.symm.trans q3
  have hselP : selectMethod e.platform s.vm cellB.cls mk = .method mk := by rw [Launch.admits_selectMethod X.admits]; exact q4
  obtain ⟨vm₁, X₁, hstep₁⟩ := X.invokevirtual hexec hown hlink hnamed hmethM hstM hkP hkPi hy (a := b) (cell := cellB) hcell
    (fun z h => by rw [h] at hobj; cases hobj) hselP hmethM habM hkP hkPi (g := g) hg (argsL := argsL) (rest := rest) (hlen _ hsigM) hstack hdg
  rcases hK m meth c ⟨T.setVm vm₁, locs, cells, slots⟩ { g with stack := rest } (.invokevirtual index) mk (Value.ref b :: argsL).toArray X₁ hg hsize hdg hW (X₁.named hnamed) (hpre vm₁ X₁.warmed) with ⟨v, B, X', hpost, hsteps⟩ | ⟨q, B, X', hpost, hsteps⟩
  · exact Or.inl ⟨v, vm₁, B, X₁.warmed, X', hpost, fun target h => hstep₁ _ fun acts => by rw [doInvoke_state]; exact hsteps.trans h⟩
  · exact Or.inr ⟨q, vm₁, B, X₁.warmed, X', hpost, hstep₁ _ fun acts => by rw [doInvoke_state]; exact hsteps⟩
theorem vx_callS (X : Stand p l e R s m args below meth c T locs cells slots) (hexec : p.tables.exec = Jvm.exec) {own : String} {index : Nat} {y : MethodName} {bytes : ByteArray} {maxL : Nat} {ret : Option FieldType}
    (hown : s.vm.findClass own = some m.cls) (hlink : (Cond.methodLink own index y).before args s = true) (hstat : (Cond.static y).before args s = true) (hinit : (Cond.initialized y.cls).before args s = true)
    (hcode : (Cond.code y bytes maxL ret).before args s = true) (hy : y.cls ≠ "java/lang/invoke/MethodHandle" ∧ y.cls ≠ "java/lang/invoke/VarHandle")
    {W9 : Nat} {Pre : Pt → Array Value → Prop} {Post : Pt → Array Value → Option Value → Pt → Prop} {PostX : Pt → Array Value → Addr → Pt → Prop} (hK : vx_Back l R p e below s args y 3 W9 Pre Post PostX)
    {g : JFrame} (hg : g.method = m) (hsize : g.locals.size = c.maxLocals) {argsL rest : List Value} (hlen : ∀ sig, parseMethodDescriptor y.desc = some sig → argsL.length = sig.parameters.length)
    (hstack : g.stack = argsL.reverse ++ rest) (hW : 2 * g.monitorRoom + (rest.map fun v => v.category).sum ≤ W9) (hdg : decode c.code g.pc = .ok (.invokestatic index, 3))
    (hpre : ∀ vm₁, s.WarmedH vm₁ → Pre ⟨T.setVm vm₁, locs, cells, slots⟩ argsL.toArray) :
    (∃ (v : Option Value) (vm₁ : Vm) (B : Pt), s.WarmedH vm₁ ∧ Stand p l e R s m args below meth c B.U B.locs B.cells B.slots ∧ Post ⟨T.setVm vm₁, locs, cells, slots⟩ argsL.toArray v B ∧
      ∀ target, Steps p.tables e below (B.U.setTop { g with pc := g.pc + 3, stack := v.toList ++ rest }) target → Steps p.tables e below (T.setTop g) target) ∨
    (∃ (q : Addr) (vm₁ : Vm) (B : Pt), s.WarmedH vm₁ ∧ Stand p l e R s m args below meth c B.U B.locs B.cells B.slots ∧ PostX ⟨T.setVm vm₁, locs, cells, slots⟩ argsL.toArray q B ∧
      Steps p.tables e below (T.setTop g) ((B.U.setTop { g with stack := rest }).pushFrame (.throwing q))) := by
  obtain ⟨mk, hnamed⟩ := Cond.code_named hcode
  obtain ⟨methM, cM, hmethM, -, -, -, -, -, -, hsigM⟩ := Cond.code_spec hnamed hcode
  have hstatic : methM.isStatic = true := Cond.static_spec hnamed hmethM hstat
  obtain ⟨kP, hkP, -⟩ := className_of_methodNamed hnamed
  have hinitP : kP.init = .initialized := Cond.initialized_spec (findClass_of_methodNamed hnamed) hkP hinit
  obtain ⟨vm₁, X₁, hstep₁⟩ := X.invokestatic hexec hown hlink hnamed hmethM hstatic hkP hinitP hy (g := g) hg (argsL := argsL) (rest := rest) (hlen _ hsigM) hstack hdg
  rcases hK m meth c ⟨T.setVm vm₁, locs, cells, slots⟩ { g with stack := rest } (.invokestatic index) mk argsL.toArray X₁ hg hsize hdg hW (X₁.named hnamed) (hpre vm₁ X₁.warmed) with ⟨v, B, X', hpost, hsteps⟩ | ⟨q, B, X', hpost, hsteps⟩
  · exact Or.inl ⟨v, vm₁, B, X₁.warmed, X', hpost, fun target h => hstep₁ _ fun acts => by rw [doInvoke_state]; exact hsteps.trans h⟩
  · exact Or.inr ⟨q, vm₁, B, X₁.warmed, X', hpost, hstep₁ _ fun acts => by rw [doInvoke_state]; exact hsteps⟩
end Calls
theorem vx_cls {s : State} {T : State} {vm₁ : Vm} {E : String} {k : ClassId} (hW : s.WarmedH vm₁) (h : (T.setVm vm₁).vm.findClass E = some k) : s.vm.findClass E = some k := by
  have h1 : vm₁.findClass E = some k := h
  rw [hW.alike.findClass] at h1
  exact h1
/-- the method's frame g, with q thrown over it -/
def vx_W (p : Program) (l : Launch) (e : Env) (R : Room) (s : State) (m : MethodId) (args : Array Value) (below : List Frame) (meth : Method) (c : Code) (H : Heap) (locs : List Loc) (cells slots : Nat) (Q : State → Prop) (g : JFrame) (q : Addr) : Prop :=
  ∀ T : State, T.heap = H → Stand p l e R s m args below meth c T locs cells slots → ∃ t, Steps p.tables e below ((T.setTop g).pushFrame (.throwing q)) t ∧ Q t
def vx_Run (p : Program) (l : Launch) (e : Env) (R : Room) (s : State) (m : MethodId) (args : Array Value) (below : List Frame) (meth : Method) (c : Code) (H : Heap) (locs : List Loc) (cells slots mc ms : Nat) (g : JFrame) (rest : List Value) (Qa : State → Outcome → State → Prop) (XC : String → State → State → Prop) (free : Addr → Prop) : Prop :=
  ∀ T : State, T.heap = H → Stand p l e R s m args below meth c T locs cells slots →
    (∃ (v : Option Value) (st₀ t T' : State) (L : List Loc), st₀.heap = H ∧ Stand p l e R s m args below meth c T' (locs ++ L) (cells + mc) (slots + ms) ∧ (∀ q ∈ L, free q.base) ∧ T'.heap = t.heap ∧ T'.vm = t.vm ∧ Qa st₀ (.returned v) t ∧
      Goes p e below T g T' { g with pc := g.pc + 3, stack := v.toList ++ rest }) ∨
    (∃ (q : Addr) (st₀ t T' : State) (L : List Loc) (E : String) (ce : Cell), st₀.heap = H ∧ Stand p l e R s m args below meth c T' (locs ++ L) (cells + mc) (slots + ms) ∧ (∀ z ∈ L, free z.base) ∧ T'.heap = t.heap ∧ T'.vm = t.vm ∧ XC E st₀ t ∧ t.heap[q]? = some ce ∧ ce.vm = .none ∧ s.vm.findClass E = some ce.cls ∧
      Steps p.tables e below (T.setTop g) ((T'.setTop { g with stack := rest }).pushFrame (.throwing q)))
def vx_X {S : Type} (px : S → Prop) (B : String → S → State → Prop) (A : Nat → Prop) : String → State → State → Prop := fun E st t => ∃ u : S, px u ∧ B E u t ∧ va_F A st t
section Runs
variable {p : Program} {l : Launch} {e : Env} {R : Room} {s : State} {m : MethodId} {args : Array Value} {below : List Frame} {meth : Method} {c : Code} {H : Heap} {locs : List Loc} {cells slots : Nat}
variable {y : MethodName} {bytes cc : ByteArray} {maxL nL mc ms n index : Nat} {ret : Option FieldType} {ws : List Cond} {rm : Room} {Pc : Array Value → State → Prop} {Qc : Array Value → State → Outcome → State → Prop} {XC : String → State → State → Prop} {free : Addr → Prop} {Ts : List Cond} {own C : String} {b : Addr} {As rest : List Value} {g : JFrame}
theorem vx_callBack (cb : CallB R s args own index y bytes maxL ret ws rm mc ms n) (hM : vx_Met l y ws rm Pc Qc XC mc ms free) (hbl : FrameBlind Pc) : vx_Back l R p e below s args y 3 8 (PreOf R mc ms Pc) (PostOf Qc mc ms free) (vx_Post XC mc ms free) := by
  obtain ⟨hrc, hrs, hfr, hlo, hws, hcw, -, hini, -⟩ := cb
  exact vx_back (bytes := bytes) (maxL := maxL) (ret := ret) hM hbl hrc hrs hfr hlo hws hcw (fun a' U hW => word_at hW (Or.inl (by first | rfl | simp [Cond.onTables, Cond.keeps, Cond.steady])) hini)
theorem vx_runV (S : CallFix p m c cc nL s args Ts own) (hM : vx_Met l y ws rm Pc Qc XC mc ms free) (cw : CallW R s args own C index y bytes maxL ret ws rm mc ms n) (hp : PreV s H C b Pc As)
    (hg : g.method = m) (hn : As.length = n) (hsize : g.locals.size = nL) (hstack : g.stack = As.reverse ++ .ref b :: rest) (hW : 2 * g.monitorRoom + (rest.map fun v => v.category).sum ≤ 8) (hdg : decode cc g.pc = .ok (.invokevirtual index, 3)) (hf : cells + mc ≤ R.cells ∧ slots + ms ≤ R.slots) :
    vx_Run p l e R s m args below meth c H locs cells slots mc ms g rest (Qc (Value.ref b :: As).toArray) XC free := by
  have hK : vx_Back l R p e below s args y 3 8 (PreOf R mc ms Pc) (PostOf Qc mc ms free) (vx_Post XC mc ms free) := vx_callBack cw.1 hM hp.1
  obtain ⟨⟨-, -, -, -, -, -, hcode, -, hy, hlen, hl⟩, hin, hse⟩ := cw
  obtain ⟨hx, hb, hml, ho, -⟩ := S
  obtain ⟨-, ⟨cellB, hcB, hoB, hclB⟩, hPc⟩ := hp
  intro T hT X
  rcases vx_callV X hx (C := C) (bytes := bytes) (maxL := maxL) (ret := ret) ho hl hin hse hcode hy hK (by rw [hT]; exact hcB) hoB hclB hg (hsize.trans hml.symm) (argsL := As) (rest := rest) (fun sig h => hn.trans (hlen sig h)) hstack hW (by rw [hb]; exact hdg)
    (fun vm₁ hW₁ => ⟨hf.1, hf.2, hPc (T.setVm vm₁) hT hW₁⟩) with ⟨v, vm₁, ⟨U', l2, c2, s2⟩, hW₁, X', ⟨g', mk, t, L, e1, e2, hq, h1, hL, h2, h3⟩, st⟩ | ⟨q, vm₁, ⟨U', l2, c2, s2⟩, hW₁, X', ⟨g', mk, t, L, E, ce, e1, e2, hq, hce, hcv, hcl, h1, hL, h2, h3⟩, st⟩
  · dsimp only [Pt.U, Pt.locs, Pt.cells, Pt.slots] at X' e1 e2 h1 h2 h3 st
    subst h1; subst h2; subst h3
    exact Or.inl ⟨v, (T.setVm vm₁).calling g' mk (Value.ref b :: As).toArray, t, U', L, hT, X', hL, e1, e2, hq, st⟩
  · dsimp only [Pt.U, Pt.locs, Pt.cells, Pt.slots] at X' e1 e2 h1 h2 h3 st hcl
    subst h1; subst h2; subst h3
    exact Or.inr ⟨q, (T.setVm vm₁).calling g' mk (Value.ref b :: As).toArray, t, U', L, E, ce, hT, X', hL, e1, e2, hq, hce, hcv, vx_cls hW₁ hcl, st⟩
theorem vx_runS (S : CallFix p m c cc nL s args Ts own) (hM : vx_Met l y ws rm Pc Qc XC mc ms free) (cw : CallB R s args own index y bytes maxL ret ws rm mc ms n ∧ (Cond.static y).before args s = true) (hp : PreS s H Pc As)
    (hg : g.method = m) (hn : As.length = n) (hsize : g.locals.size = nL) (hstack : g.stack = As.reverse ++ rest) (hW : 2 * g.monitorRoom + (rest.map fun v => v.category).sum ≤ 8) (hdg : decode cc g.pc = .ok (.invokestatic index, 3)) (hf : cells + mc ≤ R.cells ∧ slots + ms ≤ R.slots) :
    vx_Run p l e R s m args below meth c H locs cells slots mc ms g rest (Qc As.toArray) XC free := by
  have hK : vx_Back l R p e below s args y 3 8 (PreOf R mc ms Pc) (PostOf Qc mc ms free) (vx_Post XC mc ms free) := vx_callBack cw.1 hM hp.1
  obtain ⟨⟨-, -, -, -, -, -, hcode, hini, hy, hlen, hl⟩, hstt⟩ := cw
  obtain ⟨hx, hb, hml, ho, -⟩ := S
  intro T hT X
  rcases vx_callS X hx (bytes := bytes) (maxL := maxL) (ret := ret) ho hl hstt hini hcode hy hK hg (hsize.trans hml.symm) (argsL := As) (rest := rest) (fun sig h => hn.trans (hlen sig h)) hstack hW (by rw [hb]; exact hdg)
    (fun vm₁ hW₁ => ⟨hf.1, hf.2, hp.2 (T.setVm vm₁) hT hW₁⟩) with ⟨v, vm₁, ⟨U', l2, c2, s2⟩, hW₁, X', ⟨g', mk, t, L, e1, e2, hq, h1, hL, h2, h3⟩, st⟩ | ⟨q, vm₁, ⟨U', l2, c2, s2⟩, hW₁, X', ⟨g', mk, t, L, E, ce, e1, e2, hq, hce, hcv, hcl, h1, hL, h2, h3⟩, st⟩
  · dsimp only [Pt.U, Pt.locs, Pt.cells, Pt.slots] at X' e1 e2 h1 h2 h3 st
    subst h1; subst h2; subst h3
    exact Or.inl ⟨v, (T.setVm vm₁).calling g' mk As.toArray, t, U', L, hT, X', hL, e1, e2, hq, st⟩
  · dsimp only [Pt.U, Pt.locs, Pt.cells, Pt.slots] at X' e1 e2 h1 h2 h3 st hcl
    subst h1; subst h2; subst h3
    exact Or.inr ⟨q, (T.setVm vm₁).calling g' mk As.toArray, t, U', L, E, ce, hT, X', hL, e1, e2, hq, hce, hcv, vx_cls hW₁ hcl, st⟩
end Runs
section Rows
variable {p : Program} {l : Launch} {e : Env} {R : Room} {s : State} {m : MethodId} {args : Array Value} {below : List Frame} {meth : Method} {c : Code} {H : Heap} {locs : List Loc} {cells slots : Nat} {Q : State → Prop}
variable {mc ms : Nat} {free : Addr → Prop} {A0 A1 : Nat → Prop} {H0 : Heap} {a : Array Value} {pc : Nat} {ls : Array Slot} {st0 rest : List Value}
theorem vx_keep {st₀ t T' : State} {L : List Loc} (h0 : st₀.heap = H) (e1 : T'.heap = t.heap) (hS : va_S A0 H0 H locs) (hA : ∀ q, q < H.size → A1 q → A0 q) (hf : ∀ q, free q → A0 q) (hL : ∀ q ∈ L, free q.base) (hF : va_F A1 st₀ t) :
    H.size ≤ T'.heap.size ∧ (∀ q : Nat, q < H.size → ¬ A1 q → T'.heap[q]? = H[q]?) ∧ va_S A0 H0 T'.heap (locs ++ L) := by
  obtain ⟨hz, hk⟩ := hF
  rw [h0] at hz hk
  exact ⟨by rw [e1]; exact hz, fun q h1 h2 => by rw [e1]; exact hk q h1 h2,
    ⟨Nat.le_trans hS.1 (by rw [e1]; exact hz), fun q h1 h2 => by rw [e1, hk q (Nat.lt_of_lt_of_le h1 hS.1) (fun z => h2 (hA q (Nat.lt_of_lt_of_le h1 hS.1) z))]; exact hS.2.1 q h1 h2, fun q hq => by
      rcases List.mem_append.mp hq with h | h
      · exact hS.2.2 q h
      · exact hf _ (hL q h)⟩⟩
theorem vx_calli {S SX : Type} {post : Int32 → S → Prop} {px : SX → Prop} {B : S → State → Prop} {BX : String → SX → State → Prop} {AX : Nat → Prop} (hr : vx_Run p l e R s m args below meth c H locs cells slots mc ms (F0 m pc ls st0) rest (va_Qi post B A1 a) (vx_X px BX AX) free) (hS : va_S A0 H0 H locs) (hA : ∀ q, q < H.size → A1 q → A0 q) (hf : ∀ q, free q → A0 q) (hAX : ∀ q, q < H.size → AX q → A0 q)
    (kx : ∀ (E : String) (ce : Cell) (q9 : Addr) (u : SX) (t : State) (H1 : Heap) (locs1 : List Loc), t.heap = H1 → s.vm.Alike t.vm → px u → BX E u t → H.size ≤ H1.size → (∀ q : Nat, q < H.size → ¬ AX q → H1[q]? = H[q]?) → va_S A0 H0 H1 locs1 → H1[q9]? = some ce → ce.vm = .none → s.vm.findClass E = some ce.cls → vx_W p l e R s m args below meth c H1 locs1 (cells + mc) (slots + ms) Q (F0 m pc ls rest) q9)
    (kk : ∀ (r : Int32) (u : S) (t : State) (H1 : Heap) (locs1 : List Loc), t.heap = H1 → s.vm.Alike t.vm → post r u → B u t → H.size ≤ H1.size → (∀ q : Nat, q < H.size → ¬ A1 q → H1[q]? = H[q]?) → va_S A0 H0 H1 locs1 → W p l e R s m args below meth c H1 locs1 (cells + mc) (slots + ms) Q (F0 m (pc + 3) ls (.int r :: rest))) : W p l e R s m args below meth c H locs cells slots Q (F0 m pc ls st0) := by
  intro T hT X
  rcases hr T hT X with ⟨v, st₀, t, T', L, h0, X', hL, e1, e2, ⟨⟨r, u, hv, hp, hb⟩, hF⟩, st⟩ | ⟨q, st₀, t, T', L, E, ce, h0, X', hL, e1, e2, ⟨u, hp, hb, hF⟩, hce, hcv, hcl, st⟩
  · cases hv
    obtain ⟨k1, k2, k3⟩ := vx_keep h0 e1 hS hA hf hL hF
    obtain ⟨t2, a1, b1⟩ := kk r u t T'.heap (locs ++ L) e1.symm (by rw [← e2]; exact X'.warmed.alike) hp hb k1 k2 k3 T' rfl X'
    exact ⟨t2, st t2 a1, b1⟩
  · obtain ⟨k1, k2, k3⟩ := vx_keep h0 e1 hS hAX hf hL hF
    obtain ⟨t2, a1, b1⟩ := kx E ce q u t T'.heap (locs ++ L) e1.symm (by rw [← e2]; exact X'.warmed.alike) hp hb k1 k2 k3 (by rw [e1]; exact hce) hcv hcl T' rfl X'
    exact ⟨t2, st.trans a1, b1⟩
theorem vx_calll {S SX : Type} {post : Int64 → S → Prop} {px : SX → Prop} {B : S → State → Prop} {BX : String → SX → State → Prop} {AX : Nat → Prop} (hr : vx_Run p l e R s m args below meth c H locs cells slots mc ms (F0 m pc ls st0) rest (va_Ql post B A1 a) (vx_X px BX AX) free) (hS : va_S A0 H0 H locs) (hA : ∀ q, q < H.size → A1 q → A0 q) (hf : ∀ q, free q → A0 q) (hAX : ∀ q, q < H.size → AX q → A0 q)
    (kx : ∀ (E : String) (ce : Cell) (q9 : Addr) (u : SX) (t : State) (H1 : Heap) (locs1 : List Loc), t.heap = H1 → s.vm.Alike t.vm → px u → BX E u t → H.size ≤ H1.size → (∀ q : Nat, q < H.size → ¬ AX q → H1[q]? = H[q]?) → va_S A0 H0 H1 locs1 → H1[q9]? = some ce → ce.vm = .none → s.vm.findClass E = some ce.cls → vx_W p l e R s m args below meth c H1 locs1 (cells + mc) (slots + ms) Q (F0 m pc ls rest) q9)
    (kk : ∀ (r : Int64) (u : S) (t : State) (H1 : Heap) (locs1 : List Loc), t.heap = H1 → s.vm.Alike t.vm → post r u → B u t → H.size ≤ H1.size → (∀ q : Nat, q < H.size → ¬ A1 q → H1[q]? = H[q]?) → va_S A0 H0 H1 locs1 → W p l e R s m args below meth c H1 locs1 (cells + mc) (slots + ms) Q (F0 m (pc + 3) ls (.long r :: rest))) : W p l e R s m args below meth c H locs cells slots Q (F0 m pc ls st0) := by
  intro T hT X
  rcases hr T hT X with ⟨v, st₀, t, T', L, h0, X', hL, e1, e2, ⟨⟨r, u, hv, hp, hb⟩, hF⟩, st⟩ | ⟨q, st₀, t, T', L, E, ce, h0, X', hL, e1, e2, ⟨u, hp, hb, hF⟩, hce, hcv, hcl, st⟩
  · cases hv
    obtain ⟨k1, k2, k3⟩ := vx_keep h0 e1 hS hA hf hL hF
    obtain ⟨t2, a1, b1⟩ := kk r u t T'.heap (locs ++ L) e1.symm (by rw [← e2]; exact X'.warmed.alike) hp hb k1 k2 k3 T' rfl X'
    exact ⟨t2, st t2 a1, b1⟩
  · obtain ⟨k1, k2, k3⟩ := vx_keep h0 e1 hS hAX hf hL hF
    obtain ⟨t2, a1, b1⟩ := kx E ce q u t T'.heap (locs ++ L) e1.symm (by rw [← e2]; exact X'.warmed.alike) hp hb k1 k2 k3 (by rw [e1]; exact hce) hcv hcl T' rfl X'
    exact ⟨t2, st.trans a1, b1⟩
theorem vx_callf {S SX : Type} {post : UInt32 → S → Prop} {px : SX → Prop} {B : S → State → Prop} {BX : String → SX → State → Prop} {AX : Nat → Prop} (hr : vx_Run p l e R s m args below meth c H locs cells slots mc ms (F0 m pc ls st0) rest (va_Qf post B A1 a) (vx_X px BX AX) free) (hS : va_S A0 H0 H locs) (hA : ∀ q, q < H.size → A1 q → A0 q) (hf : ∀ q, free q → A0 q) (hAX : ∀ q, q < H.size → AX q → A0 q)
    (kx : ∀ (E : String) (ce : Cell) (q9 : Addr) (u : SX) (t : State) (H1 : Heap) (locs1 : List Loc), t.heap = H1 → s.vm.Alike t.vm → px u → BX E u t → H.size ≤ H1.size → (∀ q : Nat, q < H.size → ¬ AX q → H1[q]? = H[q]?) → va_S A0 H0 H1 locs1 → H1[q9]? = some ce → ce.vm = .none → s.vm.findClass E = some ce.cls → vx_W p l e R s m args below meth c H1 locs1 (cells + mc) (slots + ms) Q (F0 m pc ls rest) q9)
    (kk : ∀ (r : UInt32) (u : S) (t : State) (H1 : Heap) (locs1 : List Loc), t.heap = H1 → s.vm.Alike t.vm → post r u → B u t → H.size ≤ H1.size → (∀ q : Nat, q < H.size → ¬ A1 q → H1[q]? = H[q]?) → va_S A0 H0 H1 locs1 → W p l e R s m args below meth c H1 locs1 (cells + mc) (slots + ms) Q (F0 m (pc + 3) ls (.float r :: rest))) : W p l e R s m args below meth c H locs cells slots Q (F0 m pc ls st0) := by
  intro T hT X
  rcases hr T hT X with ⟨v, st₀, t, T', L, h0, X', hL, e1, e2, ⟨⟨r, u, hv, hp, hb⟩, hF⟩, st⟩ | ⟨q, st₀, t, T', L, E, ce, h0, X', hL, e1, e2, ⟨u, hp, hb, hF⟩, hce, hcv, hcl, st⟩
  · cases hv
    obtain ⟨k1, k2, k3⟩ := vx_keep h0 e1 hS hA hf hL hF
    obtain ⟨t2, a1, b1⟩ := kk r u t T'.heap (locs ++ L) e1.symm (by rw [← e2]; exact X'.warmed.alike) hp hb k1 k2 k3 T' rfl X'
    exact ⟨t2, st t2 a1, b1⟩
  · obtain ⟨k1, k2, k3⟩ := vx_keep h0 e1 hS hAX hf hL hF
    obtain ⟨t2, a1, b1⟩ := kx E ce q u t T'.heap (locs ++ L) e1.symm (by rw [← e2]; exact X'.warmed.alike) hp hb k1 k2 k3 (by rw [e1]; exact hce) hcv hcl T' rfl X'
    exact ⟨t2, st.trans a1, b1⟩
theorem vx_calld {S SX : Type} {post : UInt64 → S → Prop} {px : SX → Prop} {B : S → State → Prop} {BX : String → SX → State → Prop} {AX : Nat → Prop} (hr : vx_Run p l e R s m args below meth c H locs cells slots mc ms (F0 m pc ls st0) rest (va_Qd post B A1 a) (vx_X px BX AX) free) (hS : va_S A0 H0 H locs) (hA : ∀ q, q < H.size → A1 q → A0 q) (hf : ∀ q, free q → A0 q) (hAX : ∀ q, q < H.size → AX q → A0 q)
    (kx : ∀ (E : String) (ce : Cell) (q9 : Addr) (u : SX) (t : State) (H1 : Heap) (locs1 : List Loc), t.heap = H1 → s.vm.Alike t.vm → px u → BX E u t → H.size ≤ H1.size → (∀ q : Nat, q < H.size → ¬ AX q → H1[q]? = H[q]?) → va_S A0 H0 H1 locs1 → H1[q9]? = some ce → ce.vm = .none → s.vm.findClass E = some ce.cls → vx_W p l e R s m args below meth c H1 locs1 (cells + mc) (slots + ms) Q (F0 m pc ls rest) q9)
    (kk : ∀ (r : UInt64) (u : S) (t : State) (H1 : Heap) (locs1 : List Loc), t.heap = H1 → s.vm.Alike t.vm → post r u → B u t → H.size ≤ H1.size → (∀ q : Nat, q < H.size → ¬ A1 q → H1[q]? = H[q]?) → va_S A0 H0 H1 locs1 → W p l e R s m args below meth c H1 locs1 (cells + mc) (slots + ms) Q (F0 m (pc + 3) ls (.double r :: rest))) : W p l e R s m args below meth c H locs cells slots Q (F0 m pc ls st0) := by
  intro T hT X
  rcases hr T hT X with ⟨v, st₀, t, T', L, h0, X', hL, e1, e2, ⟨⟨r, u, hv, hp, hb⟩, hF⟩, st⟩ | ⟨q, st₀, t, T', L, E, ce, h0, X', hL, e1, e2, ⟨u, hp, hb, hF⟩, hce, hcv, hcl, st⟩
  · cases hv
    obtain ⟨k1, k2, k3⟩ := vx_keep h0 e1 hS hA hf hL hF
    obtain ⟨t2, a1, b1⟩ := kk r u t T'.heap (locs ++ L) e1.symm (by rw [← e2]; exact X'.warmed.alike) hp hb k1 k2 k3 T' rfl X'
    exact ⟨t2, st t2 a1, b1⟩
  · obtain ⟨k1, k2, k3⟩ := vx_keep h0 e1 hS hAX hf hL hF
    obtain ⟨t2, a1, b1⟩ := kx E ce q u t T'.heap (locs ++ L) e1.symm (by rw [← e2]; exact X'.warmed.alike) hp hb k1 k2 k3 (by rw [e1]; exact hce) hcv hcl T' rfl X'
    exact ⟨t2, st.trans a1, b1⟩
theorem vx_callv {S SX : Type} {post : S → Prop} {px : SX → Prop} {B : S → State → Prop} {BX : String → SX → State → Prop} {AX : Nat → Prop} (hr : vx_Run p l e R s m args below meth c H locs cells slots mc ms (F0 m pc ls st0) rest (va_Qv post B A1 a) (vx_X px BX AX) free) (hS : va_S A0 H0 H locs) (hA : ∀ q, q < H.size → A1 q → A0 q) (hf : ∀ q, free q → A0 q) (hAX : ∀ q, q < H.size → AX q → A0 q)
    (kx : ∀ (E : String) (ce : Cell) (q9 : Addr) (u : SX) (t : State) (H1 : Heap) (locs1 : List Loc), t.heap = H1 → s.vm.Alike t.vm → px u → BX E u t → H.size ≤ H1.size → (∀ q : Nat, q < H.size → ¬ AX q → H1[q]? = H[q]?) → va_S A0 H0 H1 locs1 → H1[q9]? = some ce → ce.vm = .none → s.vm.findClass E = some ce.cls → vx_W p l e R s m args below meth c H1 locs1 (cells + mc) (slots + ms) Q (F0 m pc ls rest) q9)
    (kk : ∀ (u : S) (t : State) (H1 : Heap) (locs1 : List Loc), t.heap = H1 → s.vm.Alike t.vm → post u → B u t → H.size ≤ H1.size → (∀ q : Nat, q < H.size → ¬ A1 q → H1[q]? = H[q]?) → va_S A0 H0 H1 locs1 → W p l e R s m args below meth c H1 locs1 (cells + mc) (slots + ms) Q (F0 m (pc + 3) ls (rest))) : W p l e R s m args below meth c H locs cells slots Q (F0 m pc ls st0) := by
  intro T hT X
  rcases hr T hT X with ⟨v, st₀, t, T', L, h0, X', hL, e1, e2, ⟨⟨u, hv, hp, hb⟩, hF⟩, st⟩ | ⟨q, st₀, t, T', L, E, ce, h0, X', hL, e1, e2, ⟨u, hp, hb, hF⟩, hce, hcv, hcl, st⟩
  · cases hv
    obtain ⟨k1, k2, k3⟩ := vx_keep h0 e1 hS hA hf hL hF
    obtain ⟨t2, a1, b1⟩ := kk u t T'.heap (locs ++ L) e1.symm (by rw [← e2]; exact X'.warmed.alike) hp hb k1 k2 k3 T' rfl X'
    exact ⟨t2, st t2 a1, b1⟩
  · obtain ⟨k1, k2, k3⟩ := vx_keep h0 e1 hS hAX hf hL hF
    obtain ⟨t2, a1, b1⟩ := kx E ce q u t T'.heap (locs ++ L) e1.symm (by rw [← e2]; exact X'.warmed.alike) hp hb k1 k2 k3 (by rw [e1]; exact hce) hcv hcl T' rfl X'
    exact ⟨t2, st.trans a1, b1⟩
/-- caught by the row x of this method's table; the rows ahead don't take it -/
theorem vx_catch {own name : String} {E : String} {ce : Cell} {q : Addr} (hown : s.vm.findClass own = some m.cls) (pre : List ExceptionTableEntry) (x : ExceptionTableEntry) (suf : List ExceptionTableEntry) (hsplit : c.exceptionTable.toList = pre ++ x :: suf)
    (hpass : ∀ z ∈ pre, covers z pc = false ∨ (z.catchType ≠ 0 ∧ ∃ nm : String, (Cond.classLink own z.catchType nm).before args s = true ∧ va_Nc E nm s)) (hx : covers x pc = true) (h0 : x.catchType ≠ 0)
    (hlink : (Cond.classLink own x.catchType name).before args s = true) (hcast : (Cond.castable E name).before args s = true) (hcell : H[q]? = some ce) (hv : ce.vm = .none) (hcl : s.vm.findClass E = some ce.cls)
    (kk : W p l e R s m args below meth c H locs cells slots Q (F0 m x.handlerPc ls [.ref q])) : vx_W p l e R s m args below meth c H locs cells slots Q (F0 m pc ls rest) q := by
  intro T hT X
  have hpl : e.platform.magicAccessors = ({} : Platform).magicAccessors := by rw [X.admits.platform]
  obtain ⟨c3, c4, hc3, hc4, hasg⟩ := Cond.castable_spec hcast
  cases Option.some.inj (hc3.symm.trans hcl)
  obtain ⟨c5, hc5, hcl5⟩ := Cond.classLink_spec hown hlink e.platform hpl
  cases Option.some.inj (hc4.symm.trans hc5)
  obtain ⟨vm', X', st⟩ := X.thenCaughtThrough q (g := F0 m pc ls rest) rfl (Steps.refl _) (by rw [hT]; exact hcell) (by rw [hv]; rfl) (by obtain ⟨k9, h9, -⟩ := Vm.findClass_spec hcl; exact ⟨k9, h9⟩) pre x suf hsplit
    (fun z hz => by
      rcases hpass z hz with h | ⟨hz0, nm, hl1, hn1⟩
      · exact Or.inl h
      · obtain ⟨c6, hc6, hcl6⟩ := Cond.classLink_spec hown hl1 e.platform hpl
        obtain ⟨a8, b8, h1, h2, h3⟩ := hn1
        cases Option.some.inj (h1.symm.trans hcl)
        cases Option.some.inj (h2.symm.trans hc6)
        exact Or.inr ⟨hz0, _, hcl6, h3⟩) hx (Or.inr ⟨h0, c4, hcl5, hasg⟩)
  obtain ⟨t, a1, b1⟩ := kk (T.setVm vm') hT X'
  exact ⟨t, st.trans a1, b1⟩
end Rows
section Ends
variable {p : Program} {l : Launch} {e : Env} {R : Room} {s : State} {m : MethodId} {args : Array Value} {below : List Frame} {meth : Method} {c : Code} {H : Heap} {locs : List Loc} {cells slots : Nat} {Q : State → Prop}
variable {mc ms : Nat} {free : Addr → Prop} {A0 A1 : Nat → Prop} {H0 : Heap} {a : Array Value} {ls : Array Slot} {st0 rest : List Value}
variable {Qc : Array Value → State → Outcome → State → Prop} {XC : String → State → State → Prop}
/-- what a body that may throw owes at its end -/
def vx_MQ (below : List Frame) (Qc : Array Value → State → Outcome → State → Prop) (XC : String → State → State → Prop) (a : Array Value) (s : State) (mc ms : Nat) (free : Addr → Prop) : State → Prop := fun t =>
  ∃ o, t.status = .running ∧ Ended t below o ∧ vx_Q Qc XC mc ms free a s o t
theorem vx_ret {g : JFrame} {mc ms : Nat} (k : W p l e R s m args below meth c H locs cells slots (MQ below Qc args s mc ms free) g) : W p l e R s m args below meth c H locs cells slots (vx_MQ below Qc XC args s mc ms free) g := by
  intro T hT X
  obtain ⟨t, a1, o, b1, b2, b3, b4⟩ := k T hT X
  exact ⟨t, a1, o, b1, b2, Or.inl ⟨b3, b4⟩⟩
/-- not caught here: it goes on to the caller -/
theorem vx_widen {g : JFrame} {q : Addr} {k n : Nat} (h1 : cells ≤ k) (h2 : slots ≤ n) (kk : vx_W p l e R s m args below meth c H locs k n Q g q) : vx_W p l e R s m args below meth c H locs cells slots Q g q := fun T hT X => kk T hT (stand_widen X h1 h2)
theorem vx_out {pc : Nat} {E : String} {ce : Cell} {q : Addr} {mc ms : Nat} (hout : ∀ x ∈ c.exceptionTable.toList, covers x pc = false) (hlocks : meth.locks = false) (hcell : H[q]? = some ce) (hv : ce.vm = .none) (hcl : s.vm.findClass E = some ce.cls)
    (hx : ∀ t : State, t.heap = H → s.vm.Alike t.vm → XC E s t) (hf : ∀ z ∈ locs, free z.base) (hc : cells ≤ mc) (hs : slots ≤ ms) :
    vx_W p l e R s m args below meth c H locs cells slots (vx_MQ below Qc XC args s mc ms free) (F0 m pc ls rest) q := by
  intro T hT X
  obtain ⟨st1, hrun, hend, hW, hsm⟩ := X.leaveThrown q (g := F0 m pc ls rest) rfl rfl rfl hout hlocks
  have hcell9 : (T.setFrames (.throwing q :: below)).heap[q]? = some ce := by
    show T.heap[q]? = some ce
    rw [hT]; exact hcell
  exact ⟨_, st1, .threw q, hrun, hend, Or.inr ⟨q, rfl, E, ce, locs, hx _ hT hW.alike, hcell9, hv, hcl, hW, hsm.mono hc hs, hf⟩⟩
theorem vx_frame {U : State} {k n : Nat} (h : s.sameButNew ({ U with vm := s.vm } : State) locs k n) : s.heap.size ≤ U.heap.size ∧ ∀ q : Nat, q < s.heap.size → (∀ z ∈ locs, z.base ≠ q) → U.heap[q]? = s.heap[q]? := by
  obtain ⟨-, h2, -, -, -, h6⟩ := h
  refine ⟨h2, fun q hq hz => ?_⟩
  obtain ⟨c9, e1, e2, e3, e4⟩ := h6 q _ (Array.getElem?_eq_getElem hq)
  have hs : c9.slots = (s.heap[q]).slots := Array.ext_getElem? fun i => e4 i fun hm => hz _ hm rfl
  have h9 : c9 = s.heap[q] := by
    rw [hs] at e2
    exact e2
  have e5 : U.heap[q]? = some c9 := e1
  rw [e5, h9, Array.getElem?_eq_getElem hq]
/-- the words of a throw but the four that speak of the heap -/
def vx_no (w : Cond) : Bool := decide (w ≠ .isRef (.static Bundle.tN "UNASSIGNED_STACK" Bundle.steD)) && decide (w ≠ .isRef (.static Bundle.tN "SUPPRESSED_SENTINEL" Bundle.listD)) && decide (w ≠ .laysStatic Bundle.tN "UNASSIGNED_STACK" Bundle.steD) && decide (w ≠ .laysStatic Bundle.tN "SUPPRESSED_SENTINEL" Bundle.listD)
def vx_at0 (own : String) (ic : Nat) (X : String) (names : List String) : List Cond := (Bundle.ownAtoms0 own ic X names).filter vx_no
def vx_atS (own : String) (ic : Nat) (X : String) (names : List String) : List Cond := (Bundle.ownAtoms own ic X names).filter vx_no
/-- a word that the tables alone decide, or a good one -/
def vx_ot (w : Cond) : Bool := w.onTables || goodWord w
theorem vx_ot_at {args a' : Array Value} {s U : State} {w : Cond} (hW : s.WarmedH U.vm) (hvm : s.vm = U.vm) (hg : vx_ot w = true) (h : w.before args s = true) : w.before a' U = true := by
  simp only [vx_ot, Bool.or_eq_true] at hg
  rcases hg with hg | hg
  · exact va_tabs hg hvm h
  · exact word_at hW (good_of_word hg) h
/-- a list's words: the good ones out of the method's own list, the others by premises of their own -/
theorem vx_hat {args : Array Value} {s : State} {L B : List Cond} (h1 : ∀ w ∈ L.filter goodWord, w.before args s = true) (h2 : ∀ w ∈ L.filter (fun w => !goodWord w), w ∈ B) (h3 : ∀ w ∈ B, w.before args s = true) : ∀ w ∈ L, w.before args s = true := by
  intro w hw
  by_cases g : goodWord w = true
  · exact h1 w (List.mem_filter.mpr ⟨hw, g⟩)
  · refine h3 w (h2 w (List.mem_filter.mpr ⟨hw, ?_⟩))
    show (!goodWord w) = true
    cases hgw : goodWord w
    · rfl
    · exact absurd hgw g
theorem vx_c {args : Array Value} {s : State} {w : Cond} {B : List Cond} (h : w.before args s = true) (t : ∀ w ∈ B, w.before args s = true) : ∀ w' ∈ w :: B, w'.before args s = true := fun w' h' => (List.mem_cons.mp h').elim (fun e => by rw [e]; exact h) (t w')
theorem vx_n {args : Array Value} {s : State} : ∀ w ∈ ([] : List Cond), w.before args s = true := fun _ h => nomatch h
theorem vx_own {args : Array Value} {s : State} {L : List Cond} (h1 : ∀ w ∈ L.filter vx_no, w.before args s = true)
    (hU : (Cond.isRef (.static Bundle.tN "UNASSIGNED_STACK" Bundle.steD)).before args s = true) (hN : (Cond.isRef (.static Bundle.tN "SUPPRESSED_SENTINEL" Bundle.listD)).before args s = true)
    (lU : (Cond.laysStatic Bundle.tN "UNASSIGNED_STACK" Bundle.steD).before args s = true) (lN : (Cond.laysStatic Bundle.tN "SUPPRESSED_SENTINEL" Bundle.listD).before args s = true) : ∀ w ∈ L, w.before args s = true := by
  intro w hw
  by_cases e1 : w = .isRef (.static Bundle.tN "UNASSIGNED_STACK" Bundle.steD)
  · rw [e1]; exact hU
  · by_cases e2 : w = .isRef (.static Bundle.tN "SUPPRESSED_SENTINEL" Bundle.listD)
    · rw [e2]; exact hN
    · by_cases e3 : w = .laysStatic Bundle.tN "UNASSIGNED_STACK" Bundle.steD
      · rw [e3]; exact lU
      · by_cases e4 : w = .laysStatic Bundle.tN "SUPPRESSED_SENTINEL" Bundle.listD
        · rw [e4]; exact lN
        · exact h1 w (List.mem_filter.mpr ⟨hw, by unfold vx_no; rw [decide_eq_true e1, decide_eq_true e2, decide_eq_true e3, decide_eq_true e4]; rfl⟩)
/-- where a static field lies, its class's statics cell in H -/
def vx_L (C n d : String) (A : Nat → Prop) (U : State) (H : Heap) : Prop := ∃ (c : ClassId) (k : Class) (i : Nat) (f : Field) (a : Nat) (cell : Cell), U.vm.findClass C = some c ∧ U.fieldFound? C n d = some (c, k, i, f) ∧ f.isStatic = true ∧ k.statics = some a ∧ H[a]? = some cell ∧ cell.vm.isStatics = true ∧ cell.cls = c ∧ f.slot < cell.slots.size ∧ k.staticTypes[f.slot]? = some f.type ∧ ¬ A a
theorem vx_L.moved {C n d : String} {A : Nat → Prop} {u U : State} {H : Heap} (hvm : u.vm.Alike U.vm) (h : vx_L C n d A u H) : vx_L C n d A U H := by
  obtain ⟨c, k, i, f, a, cell, h1, h2, h3, h4, h5, h6, h7, h8, h9, h10⟩ := h
  obtain ⟨k', hi', he⟩ := State.fieldFound?_setVm hvm h2
  exact ⟨c, k', i, f, a, cell, by rw [hvm.findClass]; exact h1, hi', h3, by rw [he]; exact h4, h5, h6, h7, h8, by rw [he]; exact h9, h10⟩
theorem vx_L.kept {C n d : String} {A : Nat → Prop} {U : State} {H H1 : Heap} (h : vx_L C n d A U H) (hq : ∀ a : Nat, a < H.size → ¬ A a → H1[a]? = H[a]?) : vx_L C n d A U H1 := by
  obtain ⟨c, k, i, f, a, cell, h1, h2, h3, h4, h5, h6, h7, h8, h9, h10⟩ := h
  exact ⟨c, k, i, f, a, cell, h1, h2, h3, h4, by rw [hq a (Array.getElem?_eq_some_iff.mp h5).1 h10]; exact h5, h6, h7, h8, h9, h10⟩
theorem vx_L.narrow {C n d : String} {A B : Nat → Prop} {U : State} {H : Heap} (h : vx_L C n d A U H) (hAB : ∀ q, B q → A q) : vx_L C n d B U H := by
  obtain ⟨c, k, i, f, a, cell, h1, h2, h3, h4, h5, h6, h7, h8, h9, h10⟩ := h
  exact ⟨c, k, i, f, a, cell, h1, h2, h3, h4, h5, h6, h7, h8, h9, fun z => h10 (hAB _ z)⟩
theorem vx_L.word {C n d : String} {A : Nat → Prop} {s : State} {args : Array Value} (h : vx_L C n d A s s.heap) : (Cond.laysStatic C n d).before args s = true := by
  obtain ⟨c, k, i, f, a, cell, h1, h2, h3, h4, h5, h6, h7, h8, h9, -⟩ := h
  show (Cond.laysStatic C n d).holds args s none s [] = true
  exact Cond.laysStatic_of h1 h2 h3 h4 h5 h6 h7 h8 h9
/-- .. and what it holds: null or some reference -/
def vx_Zq (C n d : String) (A : Nat → Prop) (U : State) (H : Heap) : Prop := va_Zq C n d A U H ∧ vx_L C n d A U H
theorem vx_Zq.moved {C n d : String} {A : Nat → Prop} {u U : State} {H : Heap} (hvm : u.vm.Alike U.vm) (h : vx_Zq C n d A u H) : vx_Zq C n d A U H := ⟨va_Zq.moved hvm h.1, vx_L.moved hvm h.2⟩
theorem vx_Zq.kept {C n d : String} {A : Nat → Prop} {U : State} {H H1 : Heap} (h : vx_Zq C n d A U H) (hq : ∀ a : Nat, a < H.size → ¬ A a → H1[a]? = H[a]?) : vx_Zq C n d A U H1 := ⟨va_Zq.kept h.1 hq, vx_L.kept h.2 hq⟩
theorem vx_Zq.narrow {C n d : String} {A B : Nat → Prop} {U : State} {H : Heap} (h : vx_Zq C n d A U H) (hAB : ∀ q, B q → A q) : vx_Zq C n d B U H := ⟨va_Zq.narrow h.1 hAB, vx_L.narrow h.2 hAB⟩
theorem vx_Zqof {args : Array Value} {s : State} {C n d : String} {A : Nat → Prop} (hl : (Cond.laysStatic C n d).before args s = true) (hini : (Cond.initialized C).before args s = true) (h : (Cond.isRef (.static C n d)).before args s = true) (hA : ∀ a : Nat, a < s.heap.size → ¬ A a) : vx_Zq C n d A s s.heap := by
  refine ⟨va_Zqof hl hini h hA, ?_⟩
  obtain ⟨c, k, i, f, a, cell, h1, h2, h3, h4, h5, h6, h7, h8, h9⟩ := Cond.laysStatic_spec hl
  exact ⟨c, k, i, f, a, cell, h1, h2, h3, h4, h5, h6, h7, h8, h9, hA a (Array.getElem?_eq_some_iff.mp h5).1⟩
theorem vx_isRef {C n d : String} {v : Value} {A : Nat → Prop} {s : State} {args : Array Value} (h : va_Z C n d v A s s.heap) (hv : v.isRef = true) : (Cond.isRef (.static C n d)).before args s = true := by
  obtain ⟨cf, kf, fi, f, a, cell, h1, h2, h3, h4, h5, h6, h7, -⟩ := h
  have he : (Term.static C n d).eval args s none [] s = some v := by
    simp [Term.eval, State.fieldNamed?, h1, h2, h4, h5, h6, h7]
  simp only [Cond.before, Cond.holds, Cond.value, he]
  cases v <;> simp_all [Value.isRef]
theorem vx_isRefq {C n d : String} {A : Nat → Prop} {s : State} {args : Array Value} (h : va_Zq C n d A s s.heap) : (Cond.isRef (.static C n d)).before args s = true := by
  rcases h with h | ⟨t, h⟩
  · exact vx_isRef h rfl
  · exact vx_isRef h rfl
/-- the same frame, seen from here: as if the method were called anew in this heap -/
theorem vx_rebase {T : State} (X : Stand p l e R s m args below meth c T locs cells slots) {R' : Room} (hf : R'.frames ≤ R.frames) (hl : R'.locals ≤ R.locals) (hc : cells + R'.cells ≤ R.cells) (hs : slots + R'.slots ≤ R.slots) :
    Stand p l e R' ((T.setVm s.vm).setFrames (.invoking m args :: below)) m args below meth c T [] 0 0 := by
  have htop : (T.setVm s.vm).topJava?.isSome := X.here.top
  have hF : ((T.setVm s.vm).setFrames (.invoking m args :: below)).frames = .invoking m args :: below := State.frames_setFrames _ (State.cur_lt_of_top htop)
  obtain ⟨g₀, hg0⟩ := Option.isSome_iff_exists.mp htop
  obtain ⟨r, hr⟩ := State.topJava?_eq_some.mp hg0
  have hl9 : e.platform.stackLimits (T.setVm s.vm).me = e.platform.stackLimits s.me := X.limits
  have hb9 : (T.setVm s.vm).me.stackBytes = s.me.stackBytes := X.bytes
  refine ⟨X.admits, X.cas, X.clock, hF, ?_, X.hears, X.method, X.code, X.here, X.tail, X.warmed, ?_, ?_, ?_⟩
  · have h := X.room
    have hU : ((T.setVm s.vm).setFrames (.invoking m args :: below)).localsInUse = s.localsInUse := by
      rw [State.localsInUse_invoking hF (meth := meth) (c := c) X.method X.code, State.localsInUse_invoking X.frames X.method X.code]
    simp only [State.hasRoom, Bool.and_eq_true, decide_eq_true_eq] at h ⊢
    obtain ⟨⟨⟨⟨h1, h2, h3, h4, h5, h6⟩, h7⟩, h8⟩, h9⟩ := h
    rw [X.frames, List.length_cons] at h2 h3
    have q1 := X.heapSize
    have q2 := X.used
    simp only [hF, hU, List.length_cons, State.stackLimits_setFrames, State.stackBytes_setFrames, hl9, hb9]
    refine ⟨⟨⟨⟨by omega, by omega, by omega, by omega, by omega, h6⟩, ?_⟩, ?_⟩, X.book⟩
    · show T.heap.size + R'.cells ≤ e.platform.maxCells
      omega
    · show T.slotsUsed + R'.slots ≤ e.platform.maxSlots
      omega
  · rw [State.stackLimits_setFrames]; rfl
  · rw [State.stackBytes_setFrames]; rfl
  · refine ⟨?_, Nat.le_refl _, Nat.le_refl _, ?_, ?_, fun a c9 h9 => ⟨c9, h9, rfl, rfl, fun _ _ => rfl⟩⟩
    · obtain ⟨t, ht, -⟩ := State.frames_cons hr
      show T.setVm s.vm = { ((T.setVm s.vm).setFrames (.invoking m args :: below)).setFrames (T.setVm s.vm).frames with heap := T.heap, slotsUsed := T.slotsUsed }
      rw [State.setFrames_setFrames, State.setFrames_self ht]
      rfl
    · show T.slotsUsed = T.slotsUsed + ((T.heap.toList.drop T.heap.size).map (·.slots.size)).sum
      rw [List.drop_eq_nil_of_le (Nat.le_of_eq Array.length_toList)]
      rfl
    · show ((T.heap.toList.drop T.heap.size).map (·.slots.size)).sum ≤ 0
      rw [List.drop_eq_nil_of_le (Nat.le_of_eq Array.length_toList)]
      exact Nat.le_refl _
/-- 'throw new E()': new; dup; invokespecial; athrow -/
theorem vx_throw0 {cc : ByteArray} {pc : Nat} (hexec : p.tables.exec = Jvm.exec) (hb : c.code = cc) (hl : l.stackTraces = false) {own cls : String} {names : List String} {ik ic mc ms : Nat} {A : Nat → Prop}
    (hown : s.vm.findClass own = some m.cls) (hcls : Bundle.fit cls = true) (hnames : ∀ n ∈ names, Bundle.fit n = true)
    (hk : (Cond.classLink own ik cls).before args s = true) (hini : (Cond.initialized cls).before args s = true) (hat : ∀ w ∈ vx_at0 own ic cls names, w.before args s = true)
    (hgood : ∀ w ∈ Cond.classLink own ik cls :: Cond.initialized cls :: vx_at0 own ic cls names, vx_ot w = true)
    (hU : vx_Zq Bundle.tN "UNASSIGNED_STACK" Bundle.steD A s s.heap) (hN : vx_Zq Bundle.tN "SUPPRESSED_SENTINEL" Bundle.listD A s s.heap) (hS : va_S A s.heap H locs) (hsize : ls.size = c.maxLocals)
    (d0 : decode cc pc = .ok (.new ik, 3)) (d3 : decode cc (pc + 3) = .ok (.dup, 1)) (d4 : decode cc (pc + 4) = .ok (.invokespecial ic, 3)) (d7 : decode cc (pc + 7) = .ok (.athrow, 1))
    (hout : ∀ x ∈ c.exceptionTable.toList, covers x (pc + 7) = false)
    (hRframes : names.length + 3 < R.frames) (hRlocals : (rest.map fun v => v.category).sum + (13 * (names.length + 1) + 42) ≤ R.locals) (hRcells : cells + 1 ≤ R.cells) (hRslots : slots + 6 ≤ R.slots) (hlocks : meth.locks = false)
    (hx : ∀ t : State, s.vm.Alike t.vm → H.size ≤ t.heap.size → (∀ q : Nat, q < H.size → t.heap[q]? = H[q]?) → XC cls s t)
    (hf : ∀ z ∈ locs, free z.base) (hc : cells + 1 ≤ mc) (hs : slots + 6 ≤ ms) :
    W p l e R s m args below meth c H locs cells slots (vx_MQ below Qc XC args s mc ms free) (F0 m pc ls rest) := by
  intro T hT X
  have htr : e.platform.stackTraces = false := (show e.platform.stackTraces = l.stackTraces by rw [X.admits.platform]).trans hl
  have Y := vx_rebase X (R' := { frames := R.frames, locals := R.locals, cells := 1, slots := 6 }) (Nat.le_refl _) (Nat.le_refl _) hRcells hRslots
  obtain ⟨s', hA⟩ : ∃ z, z = (T.setVm s.vm).setFrames (.invoking m args :: below) := ⟨_, rfl⟩
  rw [← hA] at Y
  have hvm : s'.vm = s.vm := by rw [hA]; rfl
  have hhp : s'.heap = H := by rw [hA]; exact hT
  have hW0 : s.WarmedH s'.vm := by rw [hvm]; exact State.WarmedH.refl s
  have hat' : ∀ w ∈ vx_at0 own ic cls names, w.before args s' = true := fun w hw => vx_ot_at hW0 hvm.symm (hgood w (List.mem_cons_of_mem _ (List.mem_cons_of_mem _ hw))) (hat w hw)
  have hk' : (Cond.classLink own ik cls).before args s' = true := vx_ot_at hW0 hvm.symm (hgood _ List.mem_cons_self) hk
  have hini' : (Cond.initialized cls).before args s' = true := vx_ot_at hW0 hvm.symm (hgood _ (List.mem_cons_of_mem _ List.mem_cons_self)) hini
  have hU' : vx_Zq Bundle.tN "UNASSIGNED_STACK" Bundle.steD A s' s'.heap := by rw [hhp]; exact vx_Zq.moved hW0.alike (hU.kept hS.2.1)
  have hN' : vx_Zq Bundle.tN "SUPPRESSED_SENTINEL" Bundle.listD A s' s'.heap := by rw [hhp]; exact vx_Zq.moved hW0.alike (hN.kept hS.2.1)
  have h : ∀ w ∈ Bundle.ownAtoms0 own ic cls names, w.before args s' = true := vx_own hat' (vx_isRefq hU'.1) (vx_isRefq hN'.1) hU'.2.word hN'.2.word
  have hown' : s'.vm.findClass own = some m.cls := by rw [hvm]; exact hown
  have hins : (Cond.instantiable cls 6).before args s' = true := h _ (by simp [Bundle.ownAtoms0])
  obtain ⟨vm₁, cX, kX, hfX, hkX, -, -, X₁, st1⟩ := Y.newCold hexec (own := own) (C := cls) (index := ik) (n := 6) hown' hk' hins hini'
    (g := F0 m pc ls rest) rfl (by rw [hb]; exact d0) (Nat.le_refl _) (Nat.le_refl _)
  generalize hT1 : (T.setVm vm₁).pushCell { cls := cX, slots := kX.instanceTypes.map defaultValue, vm := .none } = T1 at X₁ st1
  have hcat : (Value.ref T.heap.size).category = 1 := rfl
  have hcellA : T1.heap[T.heap.size]? = some (freshCell cX kX) := by rw [← hT1]; exact State.heap_pushCell_size _ _
  have d3' : decode c.code (pc + 3) = .ok (.dup, 1) := by rw [hb]; exact d3
  obtain ⟨U, hsteps, hrun, hend, hW, hsame, ce, hce, hO⟩ := X₁.ctorThrow0 hexec htr (own := own) (cls := cls) (names := names) (ic := ic) hown' hcls hnames h (fun x hx => nomatch hx) hfX hkX hcellA (by rw [hhp, hT]; exact Nat.le_refl _)
    (g := { method := m, pc := pc + 4, locals := ls, stack := .ref T.heap.size :: .ref T.heap.size :: rest, locked := none }) rfl hsize rfl rfl (rest := rest) rfl
    (by rw [hb]; exact d4) (by rw [hb]; exact d7) hout hRframes (by simp only [List.map_cons, List.sum_cons, hcat]; omega) hlocks
  obtain ⟨f1, f2⟩ := vx_frame hsame
  rw [hhp] at f1 f2
  have hWs : s.WarmedH U.vm := State.WarmedH.trans hW0 hW
  have hcl : s.vm.findClass cls = some ce.cls := by
    have h9 := hO.cls
    rw [hvm] at h9
    exact h9
  have hall : s.sameButNew ({ U with vm := s.vm } : State) locs mc ms := by
    subst hA
    obtain ⟨e1, e2⟩ := hsame
    rw [State.setFrames_setFrames] at e1
    have h2 : (T.setVm s.vm).sameButNew ({ U with vm := s.vm } : State) [] (0 + 1) (0 + 6) := ⟨e1, e2⟩
    have h3 := X.same.trans h2
    rw [List.append_nil] at h3
    exact h3.mono hc hs
  refine ⟨U, ?_, .threw T.heap.size, hrun, hend, Or.inr ⟨T.heap.size, rfl, cls, ce, locs, hx U hWs.alike f1 (fun q hq => f2 q hq (fun z hz => nomatch hz)), hce, hO.vm, hcl, hWs, hall, hf⟩⟩
  refine st1 _ ?_
  show Steps p.tables e below (T1.setTop { method := m, pc := pc + 3, locals := ls, stack := .ref T.heap.size :: rest, locked := none }) _
  jvm_step X₁.here [X₁.here.top, hexec, d3', Value.category]
  exact hsteps
/-- 'throw new E("text")': new; dup; ldc; invokespecial; athrow -/
theorem vx_throwS {cc : ByteArray} {pc : Nat} (hexec : p.tables.exec = Jvm.exec) (hb : c.code = cc) (hl : l.stackTraces = false) {own cls text : String} {names : List String} {ik is ic mc ms sa : Nat} {A : Nat → Prop}
    (hown : s.vm.findClass own = some m.cls) (hcls : Bundle.fit cls = true) (hnames : ∀ n ∈ names, Bundle.fit n = true)
    (hk : (Cond.classLink own ik cls).before args s = true) (hini : (Cond.initialized cls).before args s = true) (hstr : vk_R own is text sa s) (hat : ∀ w ∈ vx_atS own ic cls names, w.before args s = true)
    (hgood : ∀ w ∈ Cond.classLink own ik cls :: Cond.initialized cls :: vx_atS own ic cls names, vx_ot w = true)
    (hU : vx_Zq Bundle.tN "UNASSIGNED_STACK" Bundle.steD A s s.heap) (hN : vx_Zq Bundle.tN "SUPPRESSED_SENTINEL" Bundle.listD A s s.heap) (hS : va_S A s.heap H locs) (hsize : ls.size = c.maxLocals)
    (d0 : decode cc pc = .ok (.new ik, 3)) (d3 : decode cc (pc + 3) = .ok (.dup, 1)) (d4 : decode cc (pc + 4) = .ok (.ldc is, 2)) (d6 : decode cc (pc + 6) = .ok (.invokespecial ic, 3)) (d9 : decode cc (pc + 9) = .ok (.athrow, 1))
    (hout : ∀ x ∈ c.exceptionTable.toList, covers x (pc + 9) = false)
    (hRframes : names.length + 3 < R.frames) (hRlocals : (rest.map fun v => v.category).sum + (13 * (names.length + 1) + 43) ≤ R.locals) (hRcells : cells + 1 ≤ R.cells) (hRslots : slots + 6 ≤ R.slots) (hlocks : meth.locks = false)
    (hx : ∀ t : State, s.vm.Alike t.vm → H.size ≤ t.heap.size → (∀ q : Nat, q < H.size → t.heap[q]? = H[q]?) → XC cls s t)
    (hf : ∀ z ∈ locs, free z.base) (hc : cells + 1 ≤ mc) (hs : slots + 6 ≤ ms) :
    W p l e R s m args below meth c H locs cells slots (vx_MQ below Qc XC args s mc ms free) (F0 m pc ls rest) := by
  intro T hT X
  have htr : e.platform.stackTraces = false := (show e.platform.stackTraces = l.stackTraces by rw [X.admits.platform]).trans hl
  have Y := vx_rebase X (R' := { frames := R.frames, locals := R.locals, cells := 1, slots := 6 }) (Nat.le_refl _) (Nat.le_refl _) hRcells hRslots
  obtain ⟨s', hA⟩ : ∃ z, z = (T.setVm s.vm).setFrames (.invoking m args :: below) := ⟨_, rfl⟩
  rw [← hA] at Y
  have hvm : s'.vm = s.vm := by rw [hA]; rfl
  have hhp : s'.heap = H := by rw [hA]; exact hT
  have hW0 : s.WarmedH s'.vm := by rw [hvm]; exact State.WarmedH.refl s
  have hat' : ∀ w ∈ vx_atS own ic cls names, w.before args s' = true := fun w hw => vx_ot_at hW0 hvm.symm (hgood w (List.mem_cons_of_mem _ (List.mem_cons_of_mem _ hw))) (hat w hw)
  have hk' : (Cond.classLink own ik cls).before args s' = true := vx_ot_at hW0 hvm.symm (hgood _ List.mem_cons_self) hk
  have hini' : (Cond.initialized cls).before args s' = true := vx_ot_at hW0 hvm.symm (hgood _ (List.mem_cons_of_mem _ List.mem_cons_self)) hini
  have hU' : vx_Zq Bundle.tN "UNASSIGNED_STACK" Bundle.steD A s' s'.heap := by rw [hhp]; exact vx_Zq.moved hW0.alike (hU.kept hS.2.1)
  have hN' : vx_Zq Bundle.tN "SUPPRESSED_SENTINEL" Bundle.listD A s' s'.heap := by rw [hhp]; exact vx_Zq.moved hW0.alike (hN.kept hS.2.1)
  have h : ∀ w ∈ Bundle.ownAtoms own ic cls names, w.before args s' = true := vx_own hat' (vx_isRefq hU'.1) (vx_isRefq hN'.1) hU'.2.word hN'.2.word
  have hown' : s'.vm.findClass own = some m.cls := by rw [hvm]; exact hown
  have hins : (Cond.instantiable cls 6).before args s' = true := h _ (by simp [Bundle.ownAtoms])
  obtain ⟨vm₁, cX, kX, hfX, hkX, -, -, X₁, st1⟩ := Y.newCold hexec (own := own) (C := cls) (index := ik) (n := 6) hown' hk' hins hini'
    (g := F0 m pc ls rest) rfl (by rw [hb]; exact d0) (Nat.le_refl _) (Nat.le_refl _)
  generalize hT1 : (T.setVm vm₁).pushCell { cls := cX, slots := kX.instanceTypes.map defaultValue, vm := .none } = T1 at X₁ st1
  have hcat : (Value.ref T.heap.size).category = 1 := rfl
  have hcellA : T1.heap[T.heap.size]? = some (freshCell cX kX) := by rw [← hT1]; exact State.heap_pushCell_size _ _
  have d3' : decode c.code (pc + 3) = .ok (.dup, 1) := by rw [hb]; exact d3
  have d4' : decode c.code (pc + 4) = .ok (.ldc is, 2) := by rw [hb]; exact d4
  have hstr' : vk_R own is text sa s' := vk_R.warm hW0 hstr
  obtain ⟨U, hsteps, hrun, hend, hW, hsame, ce, hce, hO⟩ := X₁.ctorThrowS hexec htr (own := own) (cls := cls) (names := names) (ic := ic) hown' hcls hnames h (fun x hx => nomatch hx) hfX hkX hcellA (by rw [hhp, hT]; exact Nat.le_refl _) (msg := .ref sa) rfl
    (g := { method := m, pc := pc + 6, locals := ls, stack := .ref sa :: .ref T.heap.size :: .ref T.heap.size :: rest, locked := none }) rfl hsize rfl rfl (rest := rest) rfl
    (by rw [hb]; exact d6) (by rw [hb]; exact d9) hout hRframes (by simp only [List.map_cons, List.sum_cons, hcat]; omega) hlocks
  obtain ⟨f1, f2⟩ := vx_frame hsame
  rw [hhp] at f1 f2
  have hWs : s.WarmedH U.vm := State.WarmedH.trans hW0 hW
  have hcl : s.vm.findClass cls = some ce.cls := by
    have h9 := hO.cls
    rw [hvm] at h9
    exact h9
  have hall : s.sameButNew ({ U with vm := s.vm } : State) locs mc ms := by
    subst hA
    obtain ⟨e1, e2⟩ := hsame
    rw [State.setFrames_setFrames] at e1
    have h2 : (T.setVm s.vm).sameButNew ({ U with vm := s.vm } : State) [] (0 + 1) (0 + 6) := ⟨e1, e2⟩
    have h3 := X.same.trans h2
    rw [List.append_nil] at h3
    exact h3.mono hc hs
  refine ⟨U, ?_, .threw T.heap.size, hrun, hend, Or.inr ⟨T.heap.size, rfl, cls, ce, locs, hx U hWs.alike f1 (fun q hq => f2 q hq (fun z hz => nomatch hz)), hce, hO.vm, hcl, hWs, hall, hf⟩⟩
  refine st1 _ ?_
  show Steps p.tables e below (T1.setTop { method := m, pc := pc + 3, locals := ls, stack := .ref T.heap.size :: rest, locked := none }) _
  jvm_step X₁.here [X₁.here.top, hexec, d3', Value.category]
  exact X₁.ldcString hexec (own := own) (text := text) (index := is) (a := sa) hown' hstr'.1 hstr'.2
    (g := { method := m, pc := pc + 4, locals := ls, stack := .ref T.heap.size :: .ref T.heap.size :: rest, locked := none }) rfl d4' _ hsteps
/-- 'throw new E("text")', the text by a wide index -/
theorem vx_throwSW {cc : ByteArray} {pc : Nat} (hexec : p.tables.exec = Jvm.exec) (hb : c.code = cc) (hl : l.stackTraces = false) {own cls text : String} {names : List String} {ik is ic mc ms sa : Nat} {A : Nat → Prop}
    (hown : s.vm.findClass own = some m.cls) (hcls : Bundle.fit cls = true) (hnames : ∀ n ∈ names, Bundle.fit n = true)
    (hk : (Cond.classLink own ik cls).before args s = true) (hini : (Cond.initialized cls).before args s = true) (hstr : vk_R own is text sa s) (hat : ∀ w ∈ vx_atS own ic cls names, w.before args s = true)
    (hgood : ∀ w ∈ Cond.classLink own ik cls :: Cond.initialized cls :: vx_atS own ic cls names, vx_ot w = true)
    (hU : vx_Zq Bundle.tN "UNASSIGNED_STACK" Bundle.steD A s s.heap) (hN : vx_Zq Bundle.tN "SUPPRESSED_SENTINEL" Bundle.listD A s s.heap) (hS : va_S A s.heap H locs) (hsize : ls.size = c.maxLocals)
    (d0 : decode cc pc = .ok (.new ik, 3)) (d3 : decode cc (pc + 3) = .ok (.dup, 1)) (d4 : decode cc (pc + 4) = .ok (.ldc_w is, 3)) (d7 : decode cc (pc + 7) = .ok (.invokespecial ic, 3)) (d10 : decode cc (pc + 10) = .ok (.athrow, 1))
    (hout : ∀ x ∈ c.exceptionTable.toList, covers x (pc + 10) = false)
    (hRframes : names.length + 3 < R.frames) (hRlocals : (rest.map fun v => v.category).sum + (13 * (names.length + 1) + 43) ≤ R.locals) (hRcells : cells + 1 ≤ R.cells) (hRslots : slots + 6 ≤ R.slots) (hlocks : meth.locks = false)
    (hx : ∀ t : State, s.vm.Alike t.vm → H.size ≤ t.heap.size → (∀ q : Nat, q < H.size → t.heap[q]? = H[q]?) → XC cls s t)
    (hf : ∀ z ∈ locs, free z.base) (hc : cells + 1 ≤ mc) (hs : slots + 6 ≤ ms) :
    W p l e R s m args below meth c H locs cells slots (vx_MQ below Qc XC args s mc ms free) (F0 m pc ls rest) := by
  intro T hT X
  have htr : e.platform.stackTraces = false := (show e.platform.stackTraces = l.stackTraces by rw [X.admits.platform]).trans hl
  have Y := vx_rebase X (R' := { frames := R.frames, locals := R.locals, cells := 1, slots := 6 }) (Nat.le_refl _) (Nat.le_refl _) hRcells hRslots
  obtain ⟨s', hA⟩ : ∃ z, z = (T.setVm s.vm).setFrames (.invoking m args :: below) := ⟨_, rfl⟩
  rw [← hA] at Y
  have hvm : s'.vm = s.vm := by rw [hA]; rfl
  have hhp : s'.heap = H := by rw [hA]; exact hT
  have hW0 : s.WarmedH s'.vm := by rw [hvm]; exact State.WarmedH.refl s
  have hat' : ∀ w ∈ vx_atS own ic cls names, w.before args s' = true := fun w hw => vx_ot_at hW0 hvm.symm (hgood w (List.mem_cons_of_mem _ (List.mem_cons_of_mem _ hw))) (hat w hw)
  have hk' : (Cond.classLink own ik cls).before args s' = true := vx_ot_at hW0 hvm.symm (hgood _ List.mem_cons_self) hk
  have hini' : (Cond.initialized cls).before args s' = true := vx_ot_at hW0 hvm.symm (hgood _ (List.mem_cons_of_mem _ List.mem_cons_self)) hini
  have hU' : vx_Zq Bundle.tN "UNASSIGNED_STACK" Bundle.steD A s' s'.heap := by rw [hhp]; exact vx_Zq.moved hW0.alike (hU.kept hS.2.1)
  have hN' : vx_Zq Bundle.tN "SUPPRESSED_SENTINEL" Bundle.listD A s' s'.heap := by rw [hhp]; exact vx_Zq.moved hW0.alike (hN.kept hS.2.1)
  have h : ∀ w ∈ Bundle.ownAtoms own ic cls names, w.before args s' = true := vx_own hat' (vx_isRefq hU'.1) (vx_isRefq hN'.1) hU'.2.word hN'.2.word
  have hown' : s'.vm.findClass own = some m.cls := by rw [hvm]; exact hown
  have hins : (Cond.instantiable cls 6).before args s' = true := h _ (by simp [Bundle.ownAtoms])
  obtain ⟨vm₁, cX, kX, hfX, hkX, -, -, X₁, st1⟩ := Y.newCold hexec (own := own) (C := cls) (index := ik) (n := 6) hown' hk' hins hini'
    (g := F0 m pc ls rest) rfl (by rw [hb]; exact d0) (Nat.le_refl _) (Nat.le_refl _)
  generalize hT1 : (T.setVm vm₁).pushCell { cls := cX, slots := kX.instanceTypes.map defaultValue, vm := .none } = T1 at X₁ st1
  have hcat : (Value.ref T.heap.size).category = 1 := rfl
  have hcellA : T1.heap[T.heap.size]? = some (freshCell cX kX) := by rw [← hT1]; exact State.heap_pushCell_size _ _
  have d3' : decode c.code (pc + 3) = .ok (.dup, 1) := by rw [hb]; exact d3
  have d4' : decode c.code (pc + 4) = .ok (.ldc_w is, 3) := by rw [hb]; exact d4
  have hstr' : vk_R own is text sa s' := vk_R.warm hW0 hstr
  obtain ⟨U, hsteps, hrun, hend, hW, hsame, ce, hce, hO⟩ := X₁.ctorThrowS hexec htr (own := own) (cls := cls) (names := names) (ic := ic) hown' hcls hnames h (fun x hx => nomatch hx) hfX hkX hcellA (by rw [hhp, hT]; exact Nat.le_refl _) (msg := .ref sa) rfl
    (g := { method := m, pc := pc + 7, locals := ls, stack := .ref sa :: .ref T.heap.size :: .ref T.heap.size :: rest, locked := none }) rfl hsize rfl rfl (rest := rest) rfl
    (by rw [hb]; exact d7) (by rw [hb]; exact d10) hout hRframes (by simp only [List.map_cons, List.sum_cons, hcat]; omega) hlocks
  obtain ⟨f1, f2⟩ := vx_frame hsame
  rw [hhp] at f1 f2
  have hWs : s.WarmedH U.vm := State.WarmedH.trans hW0 hW
  have hcl : s.vm.findClass cls = some ce.cls := by
    have h9 := hO.cls
    rw [hvm] at h9
    exact h9
  have hall : s.sameButNew ({ U with vm := s.vm } : State) locs mc ms := by
    subst hA
    obtain ⟨e1, e2⟩ := hsame
    rw [State.setFrames_setFrames] at e1
    have h2 : (T.setVm s.vm).sameButNew ({ U with vm := s.vm } : State) [] (0 + 1) (0 + 6) := ⟨e1, e2⟩
    have h3 := X.same.trans h2
    rw [List.append_nil] at h3
    exact h3.mono hc hs
  refine ⟨U, ?_, .threw T.heap.size, hrun, hend, Or.inr ⟨T.heap.size, rfl, cls, ce, locs, hx U hWs.alike f1 (fun q hq => f2 q hq (fun z hz => nomatch hz)), hce, hO.vm, hcl, hWs, hall, hf⟩⟩
  refine st1 _ ?_
  show Steps p.tables e below (T1.setTop { method := m, pc := pc + 3, locals := ls, stack := .ref T.heap.size :: rest, locked := none }) _
  jvm_step X₁.here [X₁.here.top, hexec, d3', Value.category]
  exact X₁.ldcStringW hexec (own := own) (text := text) (index := is) (a := sa) hown' hstr'.1 hstr'.2
    (g := { method := m, pc := pc + 4, locals := ls, stack := .ref T.heap.size :: .ref T.heap.size :: rest, locked := none }) rfl d4' _ hsteps
end Ends
section Bodies
variable {l : Launch}
theorem vx_ofW {y : MethodName} {ws ws' : List Cond} {rm : Room} {Pc : Array Value → State → Prop} {Qc : Array Value → State → Outcome → State → Prop} {XC : String → State → State → Prop} {mc ms : Nat} {free : Addr → Prop} {cc : ByteArray} {maxL : Nat} {ret : Option FieldType}
    (hy : plainName y.cls = true) (hw : ws = Cond.code y cc maxL ret :: ws')
    (body : ∀ p e s m args below meth c s₁, BodyLoose p l y (headSpec ws rm) cc maxL ret e s m args below meth c s₁ → c.maxLocals = maxL → (∀ x ∈ c.exceptionTable.toList, False) → Pc args s →
      W p l e (headSpec ws rm).room s m args below meth c s.heap [] 0 0 (vx_MQ below Qc XC args s mc ms free) (entryFrame m args maxL)) : vx_Met l y ws rm Pc Qc XC mc ms free := by
  refine MetFree.of_bodyS (code := cc) (maxLocals := maxL) (ret := ret) hy ?_ ?_
  · intro args s m h hn
    obtain ⟨meth, c, h1, h2, h3, h4, h5, h6, -, -⟩ := Cond.code_spec hn (atoms_spec (ws := ws) h _ (by rw [hw]; exact List.mem_cons_self))
    exact ⟨meth, c, h1, h2, h3, h4, h5, h6⟩
  · intro p e s m args below meth c s₁ B hml hP _
    have hh0 : s₁.heap = s.heap := by rw [B.state]; rfl
    have ht : ∀ x ∈ c.exceptionTable.toList, False := by
      obtain ⟨meth9, c9, h1, h2, -, -, -, -, h7, -⟩ := Cond.code_spec B.named (atoms_spec (ws := ws) B.pre _ (by rw [hw]; exact List.mem_cons_self))
      cases Option.some.inj (h1.symm.trans B.method)
      cases Option.some.inj (h2.symm.trans (Stand.of_body B).code)
      intro x hx
      rw [Array.isEmpty_iff.mp h7] at hx
      cases hx
    obtain ⟨t, a1, o, b1, b2, b3⟩ := body p e s m args below meth c s₁ B hml ht hP s₁ hh0 (Stand.of_body B)
    exact ⟨t, o, a1, b1, b2, b3⟩
/-- the table of a body with handlers -/
theorem vx_table {p : Program} {x y : MethodName} {S : Spec} {cc bytes : ByteArray} {maxL maxL' : Nat} {ret ret' : Option FieldType} {e : Env} {s s₁ : State} {m : MethodId} {args : Array Value} {below : List Frame} {meth : Method} {c : Code} {hh : List (Nat × Nat × Nat × Nat)}
    (B : BodyLoose p l y S cc maxL ret e s m args below meth c s₁) (h : (Cond.codeWith y bytes maxL' ret' hh).before args s = true) : c.exceptionTable.toList = tableOf hh := by
  obtain ⟨m9, meth9, c9, hn9, h1, h2, -, -, h6, -⟩ := Cond.codeWith_spec h
  cases Option.some.inj (hn9.symm.trans B.named)
  cases Option.some.inj (h1.symm.trans B.method)
  cases Option.some.inj (h2.symm.trans (Stand.of_body B).code)
  rw [← h6, table_eq]
end Bodies
end VXA
/-! ===== END ===== -/
/-! ===== BEGIN a static call of a method with an exception table ===== -/
section VXS
variable {p : Program} {l : Launch} {e : Env} {R : Room} {s : State} {m : MethodId} {args : Array Value} {below : List Frame} {meth : Method} {c : Code} {T : State} {H : Heap} {locs : List Loc} {cells slots : Nat}
abbrev vx_CSW (R : Room) (s : State) (args : Array Value) (own : String) (index : Nat) (y : MethodName) (bytes : ByteArray) (maxL : Nat) (ret : Option FieldType) (hh : List (Nat × Nat × Nat × Nat)) (ws : List Cond) (rm : Room) (mc ms n : Nat) : Prop :=
  (rm.cells = mc ∧ rm.slots = ms ∧ rm.frames + 1 ≤ R.frames ∧ 8 + (maxL + 11) + rm.locals ≤ R.locals ∧ (∀ w ∈ ws, ∀ (a' : Array Value) (U : State), s.WarmedH U.vm → w.before a' U = true) ∧ Cond.codeWith y bytes maxL ret hh ∈ ws) ∧
  (Cond.codeWith y bytes maxL ret hh).before args s = true ∧ (Cond.initialized y.cls).before args s = true ∧ (y.cls ≠ "java/lang/invoke/MethodHandle" ∧ y.cls ≠ "java/lang/invoke/VarHandle") ∧
  (∀ sig, parseMethodDescriptor y.desc = some sig → n = sig.parameters.length) ∧ (Cond.methodLink own index y).before args s = true ∧ (Cond.static y).before args s = true
theorem vx_cwSW {own : String} {index maxL mc ms : Nat} {y : MethodName} {bytes : ByteArray} {ret : Option FieldType} {hh : List (Nat × Nat × Nat × Nat)} {Ts ws ws' : List Cond} {rm : Room} (n : Nat) (ht : ∀ w ∈ Ts, w.before args s = true) (hT : GoodIn Ts (va_wsS own index y ws)) (hw : ws = Cond.codeWith y bytes maxL ret hh :: ws') (hrc : rm.cells = mc) (hrs : rm.slots = ms)
    (hd : y.cls ≠ "java/lang/invoke/MethodHandle" ∧ y.cls ≠ "java/lang/invoke/VarHandle" ∧ (parseMethodDescriptor y.desc).map (fun d => d.parameters.length) = some n) (hR : rm.frames + 1 ≤ R.frames ∧ 8 + (maxL + 11) + rm.locals ≤ R.locals) :
    vx_CSW R s args own index y bytes maxL ret hh ws rm mc ms n := by
  have ok : ∀ w ∈ va_wsS own index y ws, w.before args s = true := fun w h => ht w (hT w h).1
  have hG : GoodIn Ts ws := fun w h => hT w (by unfold va_wsS; exact List.mem_append_right _ h)
  have hc : Cond.codeWith y bytes maxL ret hh ∈ ws := by rw [hw]; exact List.mem_cons_self
  refine ⟨⟨hrc, hrs, hR.1, hR.2, pay_in ht hG, hc⟩, ht _ (hG _ hc).1, ok _ (by simp [va_wsS]), ⟨hd.1, hd.2.1⟩, fun sig h => ?_, ok _ (by simp [va_wsS]), ok _ (by simp [va_wsS])⟩
  have h2 := hd.2.2
  rw [h] at h2
  exact (Option.some.inj h2).symm
theorem vx_callSW (X : Stand p l e R s m args below meth c T locs cells slots) (hexec : p.tables.exec = Jvm.exec) {own : String} {index : Nat} {y : MethodName} {bytes : ByteArray} {maxL : Nat} {ret : Option FieldType} {hh : List (Nat × Nat × Nat × Nat)}
    (hown : s.vm.findClass own = some m.cls) (hlink : (Cond.methodLink own index y).before args s = true) (hstat : (Cond.static y).before args s = true) (hinit : (Cond.initialized y.cls).before args s = true)
    (hcode : (Cond.codeWith y bytes maxL ret hh).before args s = true) (hy : y.cls ≠ "java/lang/invoke/MethodHandle" ∧ y.cls ≠ "java/lang/invoke/VarHandle")
    {W9 : Nat} {Pre : Pt → Array Value → Prop} {Post : Pt → Array Value → Option Value → Pt → Prop} (hK : Back l R p e below s args y 3 W9 Pre Post)
    {g : JFrame} (hg : g.method = m) (hsize : g.locals.size = c.maxLocals) {argsL rest : List Value} (hlen : ∀ sig, parseMethodDescriptor y.desc = some sig → argsL.length = sig.parameters.length)
    (hstack : g.stack = argsL.reverse ++ rest) (hW : 2 * g.monitorRoom + (rest.map fun v => v.category).sum ≤ W9) (hdg : decode c.code g.pc = .ok (.invokestatic index, 3))
    (hpre : ∀ vm₁, s.WarmedH vm₁ → Pre ⟨T.setVm vm₁, locs, cells, slots⟩ argsL.toArray) :
    ∃ (v : Option Value) (vm₁ : Vm) (B : Pt), s.WarmedH vm₁ ∧ Stand p l e R s m args below meth c B.U B.locs B.cells B.slots ∧ Post ⟨T.setVm vm₁, locs, cells, slots⟩ argsL.toArray v B ∧
      ∀ target, Steps p.tables e below (B.U.setTop { g with pc := g.pc + 3, stack := v.toList ++ rest }) target → Steps p.tables e below (T.setTop g) target := by
  obtain ⟨mk, methM, cM, hnamed, hmethM, -, -, -, -, -, -, hsigM⟩ := Cond.codeWith_spec hcode
  have hstatic : methM.isStatic = true := Cond.static_spec hnamed hmethM hstat
  obtain ⟨kP, hkP, -⟩ := className_of_methodNamed hnamed
  have hinitP : kP.init = .initialized := Cond.initialized_spec (findClass_of_methodNamed hnamed) hkP hinit
  obtain ⟨vm₁, X₁, hstep₁⟩ := X.invokestatic hexec hown hlink hnamed hmethM hstatic hkP hinitP hy (g := g) hg (argsL := argsL) (rest := rest) (hlen _ hsigM) hstack hdg
  obtain ⟨v, B, X', hpost, hsteps⟩ := hK m meth c ⟨T.setVm vm₁, locs, cells, slots⟩ { g with stack := rest } (.invokestatic index) mk argsL.toArray X₁ hg hsize hdg hW (X₁.named hnamed) (hpre vm₁ X₁.warmed)
  exact ⟨v, vm₁, B, X₁.warmed, X', hpost, fun target h => hstep₁ _ fun acts => by rw [doInvoke_state]; exact hsteps.trans h⟩
theorem vx_runSW {y : MethodName} {bytes cc : ByteArray} {maxL nL mc ms n index : Nat} {ret : Option FieldType} {hh : List (Nat × Nat × Nat × Nat)} {ws : List Cond} {rm : Room} {Pc : Array Value → State → Prop} {Qc : Array Value → State → Outcome → State → Prop} {free : Addr → Prop} {Ts : List Cond} {own : String} {As rest : List Value} {g : JFrame}
    (S : CallFix p m c cc nL s args Ts own) (hM : Met l y ws rm Pc Qc mc ms free) (cw : vx_CSW R s args own index y bytes maxL ret hh ws rm mc ms n) (hp : PreS s H Pc As)
    (hg : g.method = m) (hn : As.length = n) (hsize : g.locals.size = nL) (hstack : g.stack = As.reverse ++ rest) (hW : 2 * g.monitorRoom + (rest.map fun v => v.category).sum ≤ 8) (hdg : decode cc g.pc = .ok (.invokestatic index, 3)) (hf : cells + mc ≤ R.cells ∧ slots + ms ≤ R.slots) :
    va_Run p l e R s m args below meth c H locs cells slots mc ms g rest (Qc As.toArray) (free) := by
  obtain ⟨⟨hrc, hrs, hfr, hlo, hws, hcw⟩, hcode, hini, hy, hlen, hl, hstt⟩ := cw
  have hK : Back l R p e below s args y 3 8 (PreOf R mc ms Pc) (PostOf Qc mc ms free) := va_backW (hh := hh) (bytes := bytes) (maxL := maxL) (ret := ret) hM hp.1 hrc hrs hfr hlo hws hcw (fun a' U hW => word_at hW (Or.inl (by first | rfl | simp [Cond.onTables, Cond.keeps, Cond.steady])) hini)
  obtain ⟨hx, hb, hml, ho, -⟩ := S
  intro T hT X
  obtain ⟨v, vm₁, ⟨U', l2, c2, s2⟩, hW₁, X', ⟨g', mk, t, L, e1, e2, hq, h1, hL, h2, h3⟩, st⟩ := vx_callSW X hx (hh := hh) (bytes := bytes) (maxL := maxL) (ret := ret) ho hl hstt hini hcode hy hK hg (hsize.trans hml.symm) (argsL := As) (rest := rest) (fun sig h => hn.trans (hlen sig h)) hstack hW (by rw [hb]; exact hdg)
    (fun vm₁ hW₁ => ⟨hf.1, hf.2, hp.2 (T.setVm vm₁) hT hW₁⟩)
  dsimp only [Pt.U, Pt.locs, Pt.cells, Pt.slots] at X' e1 e2 h1 h2 h3 st
  subst h1; subst h2; subst h3
  exact ⟨v, (T.setVm vm₁).calling g' mk As.toArray, t, U', L, hT, X', hL, e1, e2, hq, st⟩
/-- not caught here, past rows that name other classes: it goes on to the caller -/
theorem vx_outP {p : Program} {l : Launch} {e : Env} {R : Room} {s : State} {m : MethodId} {args : Array Value} {below : List Frame} {meth : Method} {c : Code} {H : Heap} {locs : List Loc} {cells slots : Nat} {free : Addr → Prop} {ls : Array Slot} {rest : List Value} {Qc : Array Value → State → Outcome → State → Prop} {XC : String → State → State → Prop}
    {pc : Nat} {own E : String} {ce : Cell} {q : Addr} {mc ms : Nat} (hown : s.vm.findClass own = some m.cls) (hlocks : meth.locks = false)
    (hpass : ∀ z ∈ c.exceptionTable.toList, covers z pc = false ∨ (z.catchType ≠ 0 ∧ ∃ nm : String, (Cond.classLink own z.catchType nm).before args s = true ∧ va_Nc E nm s)) (hcell : H[q]? = some ce) (hv : ce.vm = .none) (hcl : s.vm.findClass E = some ce.cls)
    (hx : ∀ t : State, t.heap = H → s.vm.Alike t.vm → XC E s t) (hf : ∀ z ∈ locs, free z.base) (hc : cells ≤ mc) (hs : slots ≤ ms) :
    vx_W p l e R s m args below meth c H locs cells slots (vx_MQ below Qc XC args s mc ms free) (F0 m pc ls rest) q := by
  intro T hT X
  have hpl : e.platform.magicAccessors = ({} : Platform).magicAccessors := by rw [X.admits.platform]
  obtain ⟨vm', hW', X', st⟩ := X.outThrough hlocks q (g := F0 m pc ls rest) rfl rfl rfl (cell := ce) (by rw [hT]; exact hcell) (by rw [hv]; rfl)
    (by obtain ⟨k9, h9, -⟩ := Vm.findClass_spec hcl; exact ⟨k9, h9⟩) (fun z hz => by
      rcases hpass z hz with h | ⟨hz0, nm, hl1, hn1⟩
      · exact Or.inl h
      · obtain ⟨c6, hc6, hcl6⟩ := Cond.classLink_spec hown hl1 e.platform hpl
        obtain ⟨a8, b8, h1, h2, h3⟩ := hn1
        cases Option.some.inj (h1.symm.trans hcl)
        cases Option.some.inj (h2.symm.trans hc6)
        exact Or.inr ⟨hz0, _, hcl6, h3⟩)
  obtain ⟨g₀, hfr⟩ := X'.frames_eq
  have hcell9 : ((T.setVm vm').setFrames (.throwing q :: below)).heap[q]? = some ce := by
    show T.heap[q]? = some ce
    rw [hT]; exact hcell
  have hend : Ended ((T.setVm vm').setFrames (.throwing q :: below)) below (.threw q) := State.frames_setFrames _ (State.cur_lt_of_frames hfr)
  refine ⟨(T.setVm vm').setFrames (.throwing q :: below), ?_, .threw q, X'.here.running, hend, Or.inr ⟨q, rfl, E, ce, locs, hx _ hT (X'.ends _).1.alike, hcell9, hv, hcl, (X'.ends _).1, (X'.ends _).2.mono hc hs, hf⟩⟩
  rw [X.pushThrowing_eq]
  exact st
/-- a thing of a world lies in the heap -/
theorem vx_lt {D : va_G} {cl : List vw_C} {ws : va_W} {H1 : Heap} (h : va_P D cl ws H1) {k : Nat} {q : Nat × va_E} (hk : ws[k]? = some q) : q.1 < H1.size := (h k q hk).lt
end VXS
/-! ===== END ===== -/
/-! ===== BEGIN methods with a table of their own: called by a name, returning or throwing ===== -/
section VXH
/-! vx_backW, vx_callVX, vx_callSX, vx_callVW, vx_runVW, vx_runVX, vx_runSX, vx_ofWH follow the same proofs as their sisters above (Free/Laws.lean, Shelf42/LK1.lean); vx_outP calls Shelf42/NT130.lean (outThrough). -/
section
variable {l : Launch} {R : Room} {p : Program} {e : Env} {below : List Frame} {s : State} {sargs : Array Value} {y : MethodName} {len W9 : Nat}
theorem vx_backW {ws : List Cond} {rm : Room} {Pc : Array Value → State → Prop} {Qc : Array Value → State → Outcome → State → Prop} {XC : String → State → State → Prop} {mc ms : Nat} {free : Addr → Prop} {bytes : ByteArray} {maxL : Nat} {ret : Option FieldType} {hh : List (Nat × Nat × Nat × Nat)}
    (hM : vx_Met l y ws rm Pc Qc XC mc ms free) (hblind : FrameBlind Pc) (hrc : rm.cells = mc) (hrs : rm.slots = ms)
    (hframes : rm.frames + 1 ≤ R.frames) (hlocals : W9 + (maxL + 11) + rm.locals ≤ R.locals)
    (hws : ∀ w ∈ ws, ∀ a' U, s.WarmedH U.vm → w.before a' U = true) (hcode : Cond.codeWith y bytes maxL ret hh ∈ ws) (hinit : ∀ a' U, s.WarmedH U.vm → (Cond.initialized y.cls).before a' U = true) :
    vx_Back l R p e below s sargs y len W9 (PreOf R mc ms Pc) (PostOf Qc mc ms free) (vx_Post XC mc ms free) := by
  intro m meth c A g ig mk a X hg hsize hdg hW hn hp
  have h1 : (headSpec ws rm).pre.before a A.U = true := atoms_intro fun w hw => hws w hw _ _ X.warmed
  have h2 : (Cond.codeWith y bytes maxL ret hh).before a A.U = true := hws _ hcode _ _ X.warmed
  have h3 : (Cond.initialized y.cls).before a A.U = true := hinit _ _ X.warmed
  have h4 : A.cells + (headSpec ws rm).room.cells ≤ R.cells := by rw [show (headSpec ws rm).room.cells = mc from hrc]; exact hp.1
  have h5 : A.slots + (headSpec ws rm).room.slots ≤ R.slots := by rw [show (headSpec ws rm).room.slots = ms from hrs]; exact hp.2.1
  have hPc : Pc a (A.U.calling g mk a) := hblind _ _ _ _ hp.2.2
  obtain ⟨U, Ls, c0, s0⟩ := A
  dsimp only [Pt.U, Pt.locs, Pt.cells, Pt.slots] at h1 h2 h3 h4 h5 X hn hPc ⊢
  obtain ⟨m9, methY, cY, hn9, hmY, hcY, -, hlY, -⟩ := Cond.codeWith_spec h2
  cases Option.some.inj (hn9.symm.trans hn)
  obtain ⟨kY, hkY, -⟩ := className_of_methodNamed hn
  have hinitY : kY.init = .initialized := Cond.initialized_spec (findClass_of_methodNamed hn) hkY h3
  have h : At U g.method c below := by rw [hg]; exact X.here
  have hlocals9 : W9 + (maxL + 11) + (headSpec ws rm).room.locals ≤ R.locals := hlocals
  have happ : (headSpec ws rm).appliesLoose y e.platform (U.calling g mk a) = true :=
    Spec.appliesLoose_calling (g := g) h hdg hn hkY hinitY
      (X.room_calling (g := g) (R' := (headSpec ws rm).room) hsize hmY hcY hframes (by rw [hlY]; omega) h4 h5) h1
  obtain ⟨mid, hmid⟩ := h.above
  have hfr : (U.setTop g).frames = (.java g :: mid) ++ below := by rw [State.frames_setTop' g h.top, hmid]; rfl
  obtain ⟨o, s₂, hsteps, -, hend, hq⟩ := Steps.callFree hM p X.admits X.cas X.clock (acts := []) hfr happ hPc trivial
  have hq' : vx_Q Qc XC mc ms free a (U.calling g mk a) o s₂ := hq
  rw [State.frames_setTop' g h.top] at hend
  obtain ⟨g₀, hg0⟩ := Option.isSome_iff_exists.mp h.top
  obtain ⟨r, hr⟩ := State.topJava?_eq_some.mp hg0
  have hr' : (({ U with heap := s₂.heap, slotsUsed := s₂.slotsUsed } : State).setVm s₂.vm).frames = .java g₀ :: r := hr
  rcases hq' with ⟨hqc, L, hfe, hL⟩ | ⟨q, rfl, E, ce, L, hx, hce, hcv, hcl, hW₂, hsm, hL⟩
  · obtain ⟨⟨v, rfl⟩, hW₂, e2, q2, q3, q4, q5, q6⟩ := id hfe
    have e3 : s₂ = ({ (U.calling g mk a).setFrames s₂.frames with heap := s₂.heap, slotsUsed := s₂.slotsUsed } : State).setVm s₂.vm := by
      have : s₂ = ({ s₂ with vm := (U.calling g mk a).vm } : State).setVm s₂.vm := rfl
      rw [e2] at this
      exact this
    obtain ⟨c₂, i₂, len₂, hc₂, hd₂, hf₂⟩ := hend
    have hW' : U.WarmedH s₂.vm := hW₂
    have hcc : c₂ = c := by
      have h1 : s₂.code? g.method = U.code? g.method := by
        rw [State.code?_eq, State.code?_eq, hW'.alike.method?]
      exact Option.some.inj (hc₂.symm.trans (h1.trans h.code))
    subst hcc
    have hlen : len₂ = len := by rw [hdg] at hd₂; cases hd₂; rfl
    subst hlen
    have hs₂ : s₂ = (({ U with heap := s₂.heap, slotsUsed := s₂.slotsUsed } : State).setVm s₂.vm).setTop { g with pc := g.pc + len₂, stack := v.toList ++ g.stack } := by
      refine e3.trans ?_
      rw [hf₂, State.calling_eq h.top, State.setFrames_setFrames, State.setTop_of_frames _ hr', hr]
      rfl
    have hsame : U.sameButNew ({ U with heap := s₂.heap, slotsUsed := s₂.slotsUsed } : State) L mc ms := by
      refine ⟨?_, q2, q3, q4, q5, q6⟩
      obtain ⟨t, ht, -⟩ := State.frames_cons hr
      show ({ U with heap := s₂.heap, slotsUsed := s₂.slotsUsed } : State) = { U.setFrames U.frames with heap := s₂.heap, slotsUsed := s₂.slotsUsed }
      rw [State.setFrames_self ht]
    subst hg
    refine Or.inl ⟨v, ⟨(({ U with heap := s₂.heap, slotsUsed := s₂.slotsUsed } : State).setVm s₂.vm), Ls ++ L, c0 + mc, s0 + ms⟩,
      ⟨X.admits, X.cas, X.clock, X.frames, X.room, X.hears, X.method, X.code, (X.here.setHeapUsed s₂.heap s₂.slotsUsed).setVm hW'.alike, X.tail, State.WarmedH.trans X.warmed hW', X.limits, X.bytes, X.same.trans (hsame.setVm s.vm)⟩,
      ⟨g, mk, s₂, L, rfl, rfl, hqc, rfl, hL, rfl, rfl⟩, ?_⟩
    show Steps p.tables e below _ ((({ U with heap := s₂.heap, slotsUsed := s₂.slotsUsed } : State).setVm s₂.vm).setTop { g with pc := g.pc + len₂, stack := v.toList ++ g.stack })
    rw [← hs₂]
    exact hsteps
  · obtain ⟨e2, q2, q3, q4, q5, q6⟩ := id hsm
    have e3 : s₂ = ({ (U.calling g mk a).setFrames s₂.frames with heap := s₂.heap, slotsUsed := s₂.slotsUsed } : State).setVm s₂.vm := by
      have : s₂ = ({ s₂ with vm := (U.calling g mk a).vm } : State).setVm s₂.vm := rfl
      rw [e2] at this
      exact this
    have hf₂ : s₂.frames = .throwing q :: .java g :: U.frames.tail := hend
    have hW' : U.WarmedH s₂.vm := hW₂
    have hs₂ : s₂ = ((({ U with heap := s₂.heap, slotsUsed := s₂.slotsUsed } : State).setVm s₂.vm).setTop g).pushFrame (.throwing q) := by
      refine e3.trans ?_
      rw [hf₂, State.calling_eq h.top, State.setFrames_setFrames, State.pushFrame, State.frames_setTop _ hr', State.setTop_of_frames _ hr', State.setFrames_setFrames, hr]
      rfl
    have hsame : U.sameButNew ({ U with heap := s₂.heap, slotsUsed := s₂.slotsUsed } : State) L mc ms := by
      refine ⟨?_, q2, q3, q4, q5, q6⟩
      obtain ⟨t, ht, -⟩ := State.frames_cons hr
      show ({ U with heap := s₂.heap, slotsUsed := s₂.slotsUsed } : State) = { U.setFrames U.frames with heap := s₂.heap, slotsUsed := s₂.slotsUsed }
      rw [State.setFrames_self ht]
    subst hg
    refine Or.inr ⟨q, ⟨(({ U with heap := s₂.heap, slotsUsed := s₂.slotsUsed } : State).setVm s₂.vm), Ls ++ L, c0 + mc, s0 + ms⟩,
      ⟨X.admits, X.cas, X.clock, X.frames, X.room, X.hears, X.method, X.code, (X.here.setHeapUsed s₂.heap s₂.slotsUsed).setVm hW'.alike, X.tail, State.WarmedH.trans X.warmed hW', X.limits, X.bytes, X.same.trans (hsame.setVm s.vm)⟩,
      ⟨g, mk, s₂, L, E, ce, rfl, rfl, hx, hce, hcv, hcl, rfl, hL, rfl, rfl⟩, ?_⟩
    show Steps p.tables e below _ (((({ U with heap := s₂.heap, slotsUsed := s₂.slotsUsed } : State).setVm s₂.vm).setTop g).pushFrame (.throwing q))
    rw [← hs₂]
    exact hsteps
end
variable {p : Program} {l : Launch} {e : Env} {R : Room} {s : State} {m : MethodId} {args : Array Value} {below : List Frame} {meth : Method} {c : Code} {T : State} {H : Heap} {locs : List Loc} {cells slots : Nat}
theorem vx_callVX (X : Stand p l e R s m args below meth c T locs cells slots) (hexec : p.tables.exec = Jvm.exec) {own C : String} {index : Nat} {y : MethodName} {bytes : ByteArray} {maxL : Nat} {ret : Option FieldType} {hh : List (Nat × Nat × Nat × Nat)}
    (hown : s.vm.findClass own = some m.cls) (hlink : (Cond.methodLink own index y).before args s = true) (hinst : (Cond.instanceMethod y).before args s = true) (hsel : (Cond.selects C y y).before args s = true)
    (hcode : (Cond.codeWith y bytes maxL ret hh).before args s = true) (hy : y.cls ≠ "java/lang/invoke/MethodHandle" ∧ y.cls ≠ "java/lang/invoke/VarHandle")
    {W9 : Nat} {Pre : Pt → Array Value → Prop} {Post : Pt → Array Value → Option Value → Pt → Prop} {PostX : Pt → Array Value → Addr → Pt → Prop} (hK : vx_Back l R p e below s args y 3 W9 Pre Post PostX)
    {b : Addr} {cellB : Cell} (hcell : T.heap[b]? = some cellB) (hobj : cellB.vm.isStatics = false) (hcls : s.vm.findClass C = some cellB.cls)
    {g : JFrame} (hg : g.method = m) (hsize : g.locals.size = c.maxLocals) {argsL rest : List Value} (hlen : ∀ sig, parseMethodDescriptor y.desc = some sig → argsL.length = sig.parameters.length)
    (hstack : g.stack = argsL.reverse ++ .ref b :: rest) (hW : 2 * g.monitorRoom + (rest.map fun v => v.category).sum ≤ W9) (hdg : decode c.code g.pc = .ok (.invokevirtual index, 3))
    (hpre : ∀ vm₁, s.WarmedH vm₁ → Pre ⟨T.setVm vm₁, locs, cells, slots⟩ (Value.ref b :: argsL).toArray) :
    (∃ (v : Option Value) (vm₁ : Vm) (B : Pt), s.WarmedH vm₁ ∧ Stand p l e R s m args below meth c B.U B.locs B.cells B.slots ∧ Post ⟨T.setVm vm₁, locs, cells, slots⟩ (Value.ref b :: argsL).toArray v B ∧
      ∀ target, Steps p.tables e below (B.U.setTop { g with pc := g.pc + 3, stack := v.toList ++ rest }) target → Steps p.tables e below (T.setTop g) target) ∨
    (∃ (q : Addr) (vm₁ : Vm) (B : Pt), s.WarmedH vm₁ ∧ Stand p l e R s m args below meth c B.U B.locs B.cells B.slots ∧ PostX ⟨T.setVm vm₁, locs, cells, slots⟩ (Value.ref b :: argsL).toArray q B ∧
      Steps p.tables e below (T.setTop g) ((B.U.setTop { g with stack := rest }).pushFrame (.throwing q))) := by
  obtain ⟨mk, methM, hnamed, hmethM, hstM, habM⟩ := Cond.instanceMethod_spec hinst
  obtain ⟨m8, methM', cM, hn8, hmethM', -, -, -, -, -, -, hsigM⟩ := Cond.codeWith_spec hcode
  cases Option.some.inj (hn8.symm.trans hnamed)
  cases hmethM.symm.trans hmethM'
  obtain ⟨c2, r2, m2, q1, q2, q3, q4, kP, hkP, hkPi⟩ := Cond.selects_spec hsel
  cases hcls.symm.trans q1
  cases (State.methodFound?_of_named hnamed hy).symm.trans q2
  cases hnamed.symm.trans q3
  have hselP : selectMethod e.platform s.vm cellB.cls mk = .method mk := by rw [Launch.admits_selectMethod X.admits]; exact q4
  obtain ⟨vm₁, X₁, hstep₁⟩ := X.invokevirtual hexec hown hlink hnamed hmethM hstM hkP hkPi hy (a := b) (cell := cellB) hcell
    (fun z h => by rw [h] at hobj; cases hobj) hselP hmethM habM hkP hkPi (g := g) hg (argsL := argsL) (rest := rest) (hlen _ hsigM) hstack hdg
  rcases hK m meth c ⟨T.setVm vm₁, locs, cells, slots⟩ { g with stack := rest } (.invokevirtual index) mk (Value.ref b :: argsL).toArray X₁ hg hsize hdg hW (X₁.named hnamed) (hpre vm₁ X₁.warmed) with ⟨v, B, X', hpost, hsteps⟩ | ⟨q, B, X', hpost, hsteps⟩
  · exact Or.inl ⟨v, vm₁, B, X₁.warmed, X', hpost, fun target h => hstep₁ _ fun acts => by rw [doInvoke_state]; exact hsteps.trans h⟩
  · exact Or.inr ⟨q, vm₁, B, X₁.warmed, X', hpost, hstep₁ _ fun acts => by rw [doInvoke_state]; exact hsteps⟩
theorem vx_callSX (X : Stand p l e R s m args below meth c T locs cells slots) (hexec : p.tables.exec = Jvm.exec) {own : String} {index : Nat} {y : MethodName} {bytes : ByteArray} {maxL : Nat} {ret : Option FieldType} {hh : List (Nat × Nat × Nat × Nat)}
    (hown : s.vm.findClass own = some m.cls) (hlink : (Cond.methodLink own index y).before args s = true) (hstat : (Cond.static y).before args s = true) (hinit : (Cond.initialized y.cls).before args s = true)
    (hcode : (Cond.codeWith y bytes maxL ret hh).before args s = true) (hy : y.cls ≠ "java/lang/invoke/MethodHandle" ∧ y.cls ≠ "java/lang/invoke/VarHandle")
    {W9 : Nat} {Pre : Pt → Array Value → Prop} {Post : Pt → Array Value → Option Value → Pt → Prop} {PostX : Pt → Array Value → Addr → Pt → Prop} (hK : vx_Back l R p e below s args y 3 W9 Pre Post PostX)
    {g : JFrame} (hg : g.method = m) (hsize : g.locals.size = c.maxLocals) {argsL rest : List Value} (hlen : ∀ sig, parseMethodDescriptor y.desc = some sig → argsL.length = sig.parameters.length)
    (hstack : g.stack = argsL.reverse ++ rest) (hW : 2 * g.monitorRoom + (rest.map fun v => v.category).sum ≤ W9) (hdg : decode c.code g.pc = .ok (.invokestatic index, 3))
    (hpre : ∀ vm₁, s.WarmedH vm₁ → Pre ⟨T.setVm vm₁, locs, cells, slots⟩ argsL.toArray) :
    (∃ (v : Option Value) (vm₁ : Vm) (B : Pt), s.WarmedH vm₁ ∧ Stand p l e R s m args below meth c B.U B.locs B.cells B.slots ∧ Post ⟨T.setVm vm₁, locs, cells, slots⟩ argsL.toArray v B ∧
      ∀ target, Steps p.tables e below (B.U.setTop { g with pc := g.pc + 3, stack := v.toList ++ rest }) target → Steps p.tables e below (T.setTop g) target) ∨
    (∃ (q : Addr) (vm₁ : Vm) (B : Pt), s.WarmedH vm₁ ∧ Stand p l e R s m args below meth c B.U B.locs B.cells B.slots ∧ PostX ⟨T.setVm vm₁, locs, cells, slots⟩ argsL.toArray q B ∧
      Steps p.tables e below (T.setTop g) ((B.U.setTop { g with stack := rest }).pushFrame (.throwing q))) := by
  obtain ⟨mk, methM, cM, hnamed, hmethM, -, -, -, -, -, -, hsigM⟩ := Cond.codeWith_spec hcode
  have hstatic : methM.isStatic = true := Cond.static_spec hnamed hmethM hstat
  obtain ⟨kP, hkP, -⟩ := className_of_methodNamed hnamed
  have hinitP : kP.init = .initialized := Cond.initialized_spec (findClass_of_methodNamed hnamed) hkP hinit
  obtain ⟨vm₁, X₁, hstep₁⟩ := X.invokestatic hexec hown hlink hnamed hmethM hstatic hkP hinitP hy (g := g) hg (argsL := argsL) (rest := rest) (hlen _ hsigM) hstack hdg
  rcases hK m meth c ⟨T.setVm vm₁, locs, cells, slots⟩ { g with stack := rest } (.invokestatic index) mk argsL.toArray X₁ hg hsize hdg hW (X₁.named hnamed) (hpre vm₁ X₁.warmed) with ⟨v, B, X', hpost, hsteps⟩ | ⟨q, B, X', hpost, hsteps⟩
  · exact Or.inl ⟨v, vm₁, B, X₁.warmed, X', hpost, fun target h => hstep₁ _ fun acts => by rw [doInvoke_state]; exact hsteps.trans h⟩
  · exact Or.inr ⟨q, vm₁, B, X₁.warmed, X', hpost, hstep₁ _ fun acts => by rw [doInvoke_state]; exact hsteps⟩
theorem vx_callVW (X : Stand p l e R s m args below meth c T locs cells slots) (hexec : p.tables.exec = Jvm.exec) {own C : String} {index : Nat} {y : MethodName} {bytes : ByteArray} {maxL : Nat} {ret : Option FieldType} {hh : List (Nat × Nat × Nat × Nat)}
    (hown : s.vm.findClass own = some m.cls) (hlink : (Cond.methodLink own index y).before args s = true) (hinst : (Cond.instanceMethod y).before args s = true) (hsel : (Cond.selects C y y).before args s = true)
    (hcode : (Cond.codeWith y bytes maxL ret hh).before args s = true) (hy : y.cls ≠ "java/lang/invoke/MethodHandle" ∧ y.cls ≠ "java/lang/invoke/VarHandle")
    {W9 : Nat} {Pre : Pt → Array Value → Prop} {Post : Pt → Array Value → Option Value → Pt → Prop} (hK : Back l R p e below s args y 3 W9 Pre Post)
    {b : Addr} {cellB : Cell} (hcell : T.heap[b]? = some cellB) (hobj : cellB.vm.isStatics = false) (hcls : s.vm.findClass C = some cellB.cls)
    {g : JFrame} (hg : g.method = m) (hsize : g.locals.size = c.maxLocals) {argsL rest : List Value} (hlen : ∀ sig, parseMethodDescriptor y.desc = some sig → argsL.length = sig.parameters.length)
    (hstack : g.stack = argsL.reverse ++ .ref b :: rest) (hW : 2 * g.monitorRoom + (rest.map fun v => v.category).sum ≤ W9) (hdg : decode c.code g.pc = .ok (.invokevirtual index, 3))
    (hpre : ∀ vm₁, s.WarmedH vm₁ → Pre ⟨T.setVm vm₁, locs, cells, slots⟩ (Value.ref b :: argsL).toArray) :
    ∃ (v : Option Value) (vm₁ : Vm) (B : Pt), s.WarmedH vm₁ ∧ Stand p l e R s m args below meth c B.U B.locs B.cells B.slots ∧ Post ⟨T.setVm vm₁, locs, cells, slots⟩ (Value.ref b :: argsL).toArray v B ∧
      ∀ target, Steps p.tables e below (B.U.setTop { g with pc := g.pc + 3, stack := v.toList ++ rest }) target → Steps p.tables e below (T.setTop g) target := by
  obtain ⟨mk, methM, hnamed, hmethM, hstM, habM⟩ := Cond.instanceMethod_spec hinst
  obtain ⟨m8, methM', cM, hn8, hmethM', -, -, -, -, -, -, hsigM⟩ := Cond.codeWith_spec hcode
  cases Option.some.inj (hn8.symm.trans hnamed)
  cases hmethM.symm.trans hmethM'
  obtain ⟨c2, r2, m2, q1, q2, q3, q4, kP, hkP, hkPi⟩ := Cond.selects_spec hsel
  cases hcls.symm.trans q1
  cases (State.methodFound?_of_named hnamed hy).symm.trans q2
  cases hnamed.symm.trans q3
  have hselP : selectMethod e.platform s.vm cellB.cls mk = .method mk := by rw [Launch.admits_selectMethod X.admits]; exact q4
  obtain ⟨vm₁, X₁, hstep₁⟩ := X.invokevirtual hexec hown hlink hnamed hmethM hstM hkP hkPi hy (a := b) (cell := cellB) hcell
    (fun z h => by rw [h] at hobj; cases hobj) hselP hmethM habM hkP hkPi (g := g) hg (argsL := argsL) (rest := rest) (hlen _ hsigM) hstack hdg
  obtain ⟨v, B, X', hpost, hsteps⟩ := hK m meth c ⟨T.setVm vm₁, locs, cells, slots⟩ { g with stack := rest } (.invokevirtual index) mk (Value.ref b :: argsL).toArray X₁ hg hsize hdg hW (X₁.named hnamed) (hpre vm₁ X₁.warmed)
  exact ⟨v, vm₁, B, X₁.warmed, X', hpost, fun target h => hstep₁ _ fun acts => by rw [doInvoke_state]; exact hsteps.trans h⟩
abbrev vx_CVW (R : Room) (s : State) (args : Array Value) (own C : String) (index : Nat) (y : MethodName) (bytes : ByteArray) (maxL : Nat) (ret : Option FieldType) (hh : List (Nat × Nat × Nat × Nat)) (ws : List Cond) (rm : Room) (mc ms n : Nat) : Prop :=
  (rm.cells = mc ∧ rm.slots = ms ∧ rm.frames + 1 ≤ R.frames ∧ 8 + (maxL + 11) + rm.locals ≤ R.locals ∧ (∀ w ∈ ws, ∀ (a' : Array Value) (U : State), s.WarmedH U.vm → w.before a' U = true) ∧ Cond.codeWith y bytes maxL ret hh ∈ ws) ∧
  (Cond.codeWith y bytes maxL ret hh).before args s = true ∧ (Cond.initialized y.cls).before args s = true ∧ (y.cls ≠ "java/lang/invoke/MethodHandle" ∧ y.cls ≠ "java/lang/invoke/VarHandle") ∧
  (∀ sig, parseMethodDescriptor y.desc = some sig → n = sig.parameters.length) ∧ (Cond.methodLink own index y).before args s = true ∧ (Cond.instanceMethod y).before args s = true ∧ (Cond.selects C y y).before args s = true
theorem vx_cwVW {own C : String} {index maxL mc ms : Nat} {y : MethodName} {bytes : ByteArray} {ret : Option FieldType} {hh : List (Nat × Nat × Nat × Nat)} {Ts ws ws' : List Cond} {rm : Room} (n : Nat) (ht : ∀ w ∈ Ts, w.before args s = true) (hT : GoodIn Ts (wsV own index C y ws)) (hw : ws = Cond.codeWith y bytes maxL ret hh :: ws') (hrc : rm.cells = mc) (hrs : rm.slots = ms)
    (hd : y.cls = C ∧ y.cls ≠ "java/lang/invoke/MethodHandle" ∧ y.cls ≠ "java/lang/invoke/VarHandle" ∧ (parseMethodDescriptor y.desc).map (fun d => d.parameters.length) = some n) (hR : rm.frames + 1 ≤ R.frames ∧ 8 + (maxL + 11) + rm.locals ≤ R.locals) :
    vx_CVW R s args own C index y bytes maxL ret hh ws rm mc ms n := by
  obtain ⟨hC, hd⟩ := hd
  subst hC
  have ok : ∀ w ∈ wsV own index y.cls y ws, w.before args s = true := fun w h => ht w (hT w h).1
  have hG : GoodIn Ts ws := fun w h => hT w (by unfold wsV; exact List.mem_append_right _ h)
  have hc : Cond.codeWith y bytes maxL ret hh ∈ ws := by rw [hw]; exact List.mem_cons_self
  refine ⟨⟨hrc, hrs, hR.1, hR.2, pay_in ht hG, hc⟩, ht _ (hG _ hc).1, ok _ (by simp [wsV]), ⟨hd.1, hd.2.1⟩, fun sig h => ?_, ok _ (by simp [wsV]), ok _ (by simp [wsV]), ok _ (by simp [wsV])⟩
  have h2 := hd.2.2
  rw [h] at h2
  exact (Option.some.inj h2).symm
theorem vx_runVW {y : MethodName} {bytes cc : ByteArray} {maxL nL mc ms n index : Nat} {ret : Option FieldType} {hh : List (Nat × Nat × Nat × Nat)} {ws : List Cond} {rm : Room} {Pc : Array Value → State → Prop} {Qc : Array Value → State → Outcome → State → Prop} {free : Addr → Prop} {Ts : List Cond} {own C : String} {b : Addr} {As rest : List Value} {g : JFrame}
    (S : CallFix p m c cc nL s args Ts own) (hM : Met l y ws rm Pc Qc mc ms free) (cw : vx_CVW R s args own C index y bytes maxL ret hh ws rm mc ms n) (hp : PreV s H C b Pc As)
    (hg : g.method = m) (hn : As.length = n) (hsize : g.locals.size = nL) (hstack : g.stack = As.reverse ++ .ref b :: rest) (hW : 2 * g.monitorRoom + (rest.map fun v => v.category).sum ≤ 8) (hdg : decode cc g.pc = .ok (.invokevirtual index, 3)) (hf : cells + mc ≤ R.cells ∧ slots + ms ≤ R.slots) :
    va_Run p l e R s m args below meth c H locs cells slots mc ms g rest (Qc (Value.ref b :: As).toArray) free := by
  obtain ⟨⟨hrc, hrs, hfr, hlo, hws, hcw⟩, hcode, hini, hy, hlen, hl, hin, hse⟩ := cw
  have hK : Back l R p e below s args y 3 8 (PreOf R mc ms Pc) (PostOf Qc mc ms free) := va_backW (hh := hh) (bytes := bytes) (maxL := maxL) (ret := ret) hM hp.1 hrc hrs hfr hlo hws hcw (fun a' U hW => word_at hW (Or.inl (by first | rfl | simp [Cond.onTables, Cond.keeps, Cond.steady])) hini)
  obtain ⟨hx, hb, hml, ho, -⟩ := S
  obtain ⟨-, ⟨cellB, hcB, hoB, hclB⟩, hPc⟩ := hp
  intro T hT X
  obtain ⟨v, vm₁, ⟨U', l2, c2, s2⟩, hW₁, X', ⟨g', mk, t, L, e1, e2, hq, h1, hL, h2, h3⟩, st⟩ := vx_callVW X hx (C := C) (hh := hh) (bytes := bytes) (maxL := maxL) (ret := ret) ho hl hin hse hcode hy hK (by rw [hT]; exact hcB) hoB hclB hg (hsize.trans hml.symm) (argsL := As) (rest := rest) (fun sig h => hn.trans (hlen sig h)) hstack hW (by rw [hb]; exact hdg)
    (fun vm₁ hW₁ => ⟨hf.1, hf.2, hPc (T.setVm vm₁) hT hW₁⟩)
  dsimp only [Pt.U, Pt.locs, Pt.cells, Pt.slots] at X' e1 e2 h1 h2 h3 st
  subst h1; subst h2; subst h3
  exact ⟨v, (T.setVm vm₁).calling g' mk (Value.ref b :: As).toArray, t, U', L, hT, X', hL, e1, e2, hq, st⟩
section
variable {y : MethodName} {bytes cc : ByteArray} {maxL nL mc ms n index : Nat} {ret : Option FieldType} {ws : List Cond} {rm : Room} {Pc : Array Value → State → Prop} {Qc : Array Value → State → Outcome → State → Prop} {XC : String → State → State → Prop} {free : Addr → Prop} {Ts : List Cond} {own C : String} {b : Addr} {As rest : List Value} {g : JFrame}
theorem vx_runVX {hh : List (Nat × Nat × Nat × Nat)} (S : CallFix p m c cc nL s args Ts own) (hM : vx_Met l y ws rm Pc Qc XC mc ms free) (cw : vx_CVW R s args own C index y bytes maxL ret hh ws rm mc ms n) (hp : PreV s H C b Pc As)
    (hg : g.method = m) (hn : As.length = n) (hsize : g.locals.size = nL) (hstack : g.stack = As.reverse ++ .ref b :: rest) (hW : 2 * g.monitorRoom + (rest.map fun v => v.category).sum ≤ 8) (hdg : decode cc g.pc = .ok (.invokevirtual index, 3)) (hf : cells + mc ≤ R.cells ∧ slots + ms ≤ R.slots) :
    vx_Run p l e R s m args below meth c H locs cells slots mc ms g rest (Qc (Value.ref b :: As).toArray) XC free := by
  obtain ⟨⟨hrc, hrs, hfr, hlo, hws, hcw⟩, hcode, hini, hy, hlen, hl, hin, hse⟩ := cw
  have hK : vx_Back l R p e below s args y 3 8 (PreOf R mc ms Pc) (PostOf Qc mc ms free) (vx_Post XC mc ms free) := vx_backW (hh := hh) (bytes := bytes) (maxL := maxL) (ret := ret) hM hp.1 hrc hrs hfr hlo hws hcw (fun a' U hW => word_at hW (Or.inl (by first | rfl | simp [Cond.onTables, Cond.keeps, Cond.steady])) hini)
  obtain ⟨hx, hb, hml, ho, -⟩ := S
  obtain ⟨-, ⟨cellB, hcB, hoB, hclB⟩, hPc⟩ := hp
  intro T hT X
  rcases vx_callVX X hx (C := C) (hh := hh) (bytes := bytes) (maxL := maxL) (ret := ret) ho hl hin hse hcode hy hK (by rw [hT]; exact hcB) hoB hclB hg (hsize.trans hml.symm) (argsL := As) (rest := rest) (fun sig h => hn.trans (hlen sig h)) hstack hW (by rw [hb]; exact hdg)
    (fun vm₁ hW₁ => ⟨hf.1, hf.2, hPc (T.setVm vm₁) hT hW₁⟩) with ⟨v, vm₁, ⟨U', l2, c2, s2⟩, hW₁, X', ⟨g', mk, t, L, e1, e2, hq, h1, hL, h2, h3⟩, st⟩ | ⟨q, vm₁, ⟨U', l2, c2, s2⟩, hW₁, X', ⟨g', mk, t, L, E, ce, e1, e2, hq, hce, hcv, hcl, h1, hL, h2, h3⟩, st⟩
  · dsimp only [Pt.U, Pt.locs, Pt.cells, Pt.slots] at X' e1 e2 h1 h2 h3 st
    subst h1; subst h2; subst h3
    exact Or.inl ⟨v, (T.setVm vm₁).calling g' mk (Value.ref b :: As).toArray, t, U', L, hT, X', hL, e1, e2, hq, st⟩
  · dsimp only [Pt.U, Pt.locs, Pt.cells, Pt.slots] at X' e1 e2 h1 h2 h3 st hcl
    subst h1; subst h2; subst h3
    exact Or.inr ⟨q, (T.setVm vm₁).calling g' mk (Value.ref b :: As).toArray, t, U', L, E, ce, hT, X', hL, e1, e2, hq, hce, hcv, vx_cls hW₁ hcl, st⟩
theorem vx_runSX {hh : List (Nat × Nat × Nat × Nat)} (S : CallFix p m c cc nL s args Ts own) (hM : vx_Met l y ws rm Pc Qc XC mc ms free) (cw : vx_CSW R s args own index y bytes maxL ret hh ws rm mc ms n) (hp : PreS s H Pc As)
    (hg : g.method = m) (hn : As.length = n) (hsize : g.locals.size = nL) (hstack : g.stack = As.reverse ++ rest) (hW : 2 * g.monitorRoom + (rest.map fun v => v.category).sum ≤ 8) (hdg : decode cc g.pc = .ok (.invokestatic index, 3)) (hf : cells + mc ≤ R.cells ∧ slots + ms ≤ R.slots) :
    vx_Run p l e R s m args below meth c H locs cells slots mc ms g rest (Qc As.toArray) XC free := by
  obtain ⟨⟨hrc, hrs, hfr, hlo, hws, hcw⟩, hcode, hini, hy, hlen, hl, hstt⟩ := cw
  have hK : vx_Back l R p e below s args y 3 8 (PreOf R mc ms Pc) (PostOf Qc mc ms free) (vx_Post XC mc ms free) := vx_backW (hh := hh) (bytes := bytes) (maxL := maxL) (ret := ret) hM hp.1 hrc hrs hfr hlo hws hcw (fun a' U hW => word_at hW (Or.inl (by first | rfl | simp [Cond.onTables, Cond.keeps, Cond.steady])) hini)
  obtain ⟨hx, hb, hml, ho, -⟩ := S
  intro T hT X
  rcases vx_callSX X hx (hh := hh) (bytes := bytes) (maxL := maxL) (ret := ret) ho hl hstt hini hcode hy hK hg (hsize.trans hml.symm) (argsL := As) (rest := rest) (fun sig h => hn.trans (hlen sig h)) hstack hW (by rw [hb]; exact hdg)
    (fun vm₁ hW₁ => ⟨hf.1, hf.2, hp.2 (T.setVm vm₁) hT hW₁⟩) with ⟨v, vm₁, ⟨U', l2, c2, s2⟩, hW₁, X', ⟨g', mk, t, L, e1, e2, hq, h1, hL, h2, h3⟩, st⟩ | ⟨q, vm₁, ⟨U', l2, c2, s2⟩, hW₁, X', ⟨g', mk, t, L, E, ce, e1, e2, hq, hce, hcv, hcl, h1, hL, h2, h3⟩, st⟩
  · dsimp only [Pt.U, Pt.locs, Pt.cells, Pt.slots] at X' e1 e2 h1 h2 h3 st
    subst h1; subst h2; subst h3
    exact Or.inl ⟨v, (T.setVm vm₁).calling g' mk As.toArray, t, U', L, hT, X', hL, e1, e2, hq, st⟩
  · dsimp only [Pt.U, Pt.locs, Pt.cells, Pt.slots] at X' e1 e2 h1 h2 h3 st hcl
    subst h1; subst h2; subst h3
    exact Or.inr ⟨q, (T.setVm vm₁).calling g' mk As.toArray, t, U', L, E, ce, hT, X', hL, e1, e2, hq, hce, hcv, vx_cls hW₁ hcl, st⟩
end
end VXH
theorem vx_ofWH {l : Launch} {y : MethodName} {ws ws' : List Cond} {rm : Room} {Pc : Array Value → State → Prop} {Qc : Array Value → State → Outcome → State → Prop} {XC : String → State → State → Prop} {mc ms : Nat} {free : Addr → Prop} {cc : ByteArray} {maxL : Nat} {ret : Option FieldType} {hh : List (Nat × Nat × Nat × Nat)}
    (hy : plainName y.cls = true) (hw : ws = Cond.codeWith y cc maxL ret hh :: ws')
    (body : ∀ p e s m args below meth c s₁, BodyLoose p l y (headSpec ws rm) cc maxL ret e s m args below meth c s₁ → c.maxLocals = maxL → Pc args s →
      W p l e (headSpec ws rm).room s m args below meth c s.heap [] 0 0 (vx_MQ below Qc XC args s mc ms free) (entryFrame m args maxL)) : vx_Met l y ws rm Pc Qc XC mc ms free := by
  refine MetFree.of_bodyS (code := cc) (maxLocals := maxL) (ret := ret) hy ?_ ?_
  · intro args s m h hn
    obtain ⟨m9, meth, c, hn9, h1, h2, h3, h4, -, h5, h6, -⟩ := Cond.codeWith_spec (atoms_spec (ws := ws) h _ (by rw [hw]; exact List.mem_cons_self))
    cases hn.symm.trans hn9
    exact ⟨meth, c, h1, h2, h3, h4, h5, h6⟩
  · intro p e s m args below meth c s₁ B hml hP _
    have hh0 : s₁.heap = s.heap := by rw [B.state]; rfl
    obtain ⟨t, a1, o, b1, b2, b3⟩ := body p e s m args below meth c s₁ B hml hP s₁ hh0 (Stand.of_body B)
    exact ⟨t, o, a1, b1, b2, b3⟩
/-! ===== END ===== -/
end
section
/-! ===== BEGIN printed: names, fields, word lists, decode rows ===== -/
def RX0 : String := "SwitchFloor$Lanes"
def TX0 : u_T := fun k => match k with
  | 0 => ("SwitchFloor$Lanes", "carried", "[I", true)
  | _ => ("SwitchFloor$Lanes", "untagged", "[I", true)
def tyX0 : Nat → FieldType := fun k => match k with
  | 0 => .array .int
  | _ => .array .int
abbrev wsX00 : List Cond := u_ws RX0 TX0 2
theorem nmX0 : ∀ a, a < 2 → ∀ b, b < 2 → a ≠ b → (TX0 a).2.1 ≠ (TX0 b).2.1 := by decide +kernel
theorem tyX0_ok : ∀ k, k < 2 → parseFieldDescriptor (TX0 k).2.2.1 = some (tyX0 k) := by decide +kernel
abbrev cX0_init : ByteArray := prog_2_method_1_code
def yX0_init : MethodName := ⟨RX0, "<init>", "()V"⟩
abbrev cX0_bitOf : ByteArray := prog_2_method_2_code
def yX0_bitOf : MethodName := ⟨RX0, "bitOf", "(I)I"⟩
abbrev cX0_setUp : ByteArray := prog_2_method_3_code
def yX0_setUp : MethodName := ⟨RX0, "setUp", "(III)V"⟩
abbrev cX0_carries : ByteArray := prog_2_method_4_code
def yX0_carries : MethodName := ⟨RX0, "carries", "(II)Z"⟩
abbrev cX0_laneIn : ByteArray := prog_2_method_5_code
def yX0_laneIn : MethodName := ⟨RX0, "laneIn", "(II)I"⟩
abbrev cX0_tagOut : ByteArray := prog_2_method_6_code
def yX0_tagOut : MethodName := ⟨RX0, "tagOut", "(II)I"⟩
def RX1 : String := "SwitchFloor$Steps"
def TX1 : u_T := fun k => match k with
  | 0 => ("SwitchFloor$Steps", "spot", "[I", true)
  | 1 => ("SwitchFloor$Steps", "tag", "[I", true)
  | 2 => ("SwitchFloor$Steps", "second", "[I", true)
  | 3 => ("SwitchFloor$Steps", "hops", "[I", true)
  | _ => ("SwitchFloor$Steps", "size", "I", false)
def tyX1 : Nat → FieldType := fun k => match k with
  | 0 => .array .int
  | 1 => .array .int
  | 2 => .array .int
  | 3 => .array .int
  | _ => .int
abbrev wsX10 : List Cond := u_ws RX1 TX1 5
theorem nmX1 : ∀ a, a < 5 → ∀ b, b < 5 → a ≠ b → (TX1 a).2.1 ≠ (TX1 b).2.1 := by decide +kernel
theorem tyX1_ok : ∀ k, k < 5 → parseFieldDescriptor (TX1 k).2.2.1 = some (tyX1 k) := by decide +kernel
abbrev cX1_init : ByteArray := prog_3_method_1_code
def yX1_init : MethodName := ⟨RX1, "<init>", "()V"⟩
abbrev cX1_restart : ByteArray := prog_3_method_2_code
def yX1_restart : MethodName := ⟨RX1, "restart", "()V"⟩
abbrev cX1_add : ByteArray := prog_3_method_3_code
def yX1_add : MethodName := ⟨RX1, "add", "(IIII)V"⟩
def RX2 : String := "SwitchFloor$Tables"
def TX2 : u_T := fun k => match k with
  | 0 => ("SwitchFloor$Tables", "heardBy", "[I", true)
  | 1 => ("SwitchFloor$Tables", "heardAt", "[I", true)
  | _ => ("SwitchFloor$Tables", "entries", "[I", true)
def tyX2 : Nat → FieldType := fun k => match k with
  | 0 => .array .int
  | 1 => .array .int
  | _ => .array .int
abbrev wsX20 : List Cond := u_ws RX2 TX2 3
theorem nmX2 : ∀ a, a < 3 → ∀ b, b < 3 → a ≠ b → (TX2 a).2.1 ≠ (TX2 b).2.1 := by decide +kernel
theorem tyX2_ok : ∀ k, k < 3 → parseFieldDescriptor (TX2 k).2.2.1 = some (tyX2 k) := by decide +kernel
abbrev cX2_init : ByteArray := prog_4_method_1_code
def yX2_init : MethodName := ⟨RX2, "<init>", "()V"⟩
abbrev cX2_indexOf : ByteArray := prog_4_method_2_code
def yX2_indexOf : MethodName := ⟨RX2, "indexOf", "(III)I"⟩
abbrev cX2_portFor : ByteArray := prog_4_method_3_code
def yX2_portFor : MethodName := ⟨RX2, "portFor", "(III)I"⟩
abbrev cX2_hear : ByteArray := prog_4_method_4_code
def yX2_hear : MethodName := ⟨RX2, "hear", "(IIII)V"⟩
abbrev cX2_forgetPort : ByteArray := prog_4_method_5_code
def yX2_forgetPort : MethodName := ⟨RX2, "forgetPort", "(I)V"⟩
abbrev cX2_empty : ByteArray := prog_4_method_6_code
def yX2_empty : MethodName := ⟨RX2, "empty", "(I)V"⟩
abbrev cX2_dropOld : ByteArray := prog_4_method_7_code
def yX2_dropOld : MethodName := ⟨RX2, "dropOld", "(I)V"⟩
abbrev cX2_drop : ByteArray := prog_4_method_8_code
def yX2_drop : MethodName := ⟨RX2, "drop", "(I)V"⟩
def RX3 : String := "SwitchFloor$Tree"
def TX3 : u_T := fun k => match k with
  | 0 => ("SwitchFloor$Tree", "wiring", "LSwitchFloor$Wiring;", true)
  | 1 => ("SwitchFloor$Tree", "root", "[I", true)
  | 2 => ("SwitchFloor$Tree", "cost", "[I", true)
  | 3 => ("SwitchFloor$Tree", "hops", "[I", true)
  | 4 => ("SwitchFloor$Tree", "rootPort", "[I", true)
  | 5 => ("SwitchFloor$Tree", "shutTill", "[I", true)
  | 6 => ("SwitchFloor$Tree", "open", "[Z", true)
  | 7 => ("SwitchFloor$Tree", "role", "[I", true)
  | 8 => ("SwitchFloor$Tree", "waited", "[I", true)
  | 9 => ("SwitchFloor$Tree", "beats", "I", false)
  | 10 => ("SwitchFloor$Tree", "toldRoot", "[I", true)
  | 11 => ("SwitchFloor$Tree", "toldCost", "[I", true)
  | 12 => ("SwitchFloor$Tree", "toldHops", "[I", true)
  | 13 => ("SwitchFloor$Tree", "caught", "[Z", true)
  | 14 => ("SwitchFloor$Tree", "stale", "[Z", true)
  | _ => ("SwitchFloor$Tree", "way", "[I", true)
def tyX3 : Nat → FieldType := fun k => match k with
  | 0 => .object "SwitchFloor$Wiring"
  | 1 => .array .int
  | 2 => .array .int
  | 3 => .array .int
  | 4 => .array .int
  | 5 => .array .int
  | 6 => .array .boolean
  | 7 => .array .int
  | 8 => .array .int
  | 9 => .int
  | 10 => .array .int
  | 11 => .array .int
  | 12 => .array .int
  | 13 => .array .boolean
  | 14 => .array .boolean
  | _ => .array .int
abbrev wsX30 : List Cond := u_ws RX3 TX3 16
theorem nmX3 : ∀ a, a < 16 → ∀ b, b < 16 → a ≠ b → (TX3 a).2.1 ≠ (TX3 b).2.1 := by decide +kernel
theorem tyX3_ok : ∀ k, k < 16 → parseFieldDescriptor (TX3 k).2.2.1 = some (tyX3 k) := by decide +kernel
abbrev cX3_init : ByteArray := prog_5_method_1_code
def yX3_init : MethodName := ⟨RX3, "<init>", "(LSwitchFloor$Wiring;)V"⟩
abbrev cX3_copyFrom : ByteArray := prog_5_method_2_code
def yX3_copyFrom : MethodName := ⟨RX3, "copyFrom", "(LSwitchFloor$Tree;)V"⟩
abbrev cX3_looksLike : ByteArray := prog_5_method_3_code
def yX3_looksLike : MethodName := ⟨RX3, "looksLike", "(LSwitchFloor$Tree;)Z"⟩
abbrev cX3_hasWaitingPort : ByteArray := prog_5_method_4_code
def yX3_hasWaitingPort : MethodName := ⟨RX3, "hasWaitingPort", "()Z"⟩
abbrev cX3_isShut : ByteArray := prog_5_method_5_code
def yX3_isShut : MethodName := ⟨RX3, "isShut", "(I)Z"⟩
abbrev cX3_isJoined : ByteArray := prog_5_method_6_code
def yX3_isJoined : MethodName := ⟨RX3, "isJoined", "(I)Z"⟩
abbrev cX3_close : ByteArray := prog_5_method_7_code
def yX3_close : MethodName := ⟨RX3, "close", "(I)V"⟩
abbrev cX3_openForHouse : ByteArray := prog_5_method_8_code
def yX3_openForHouse : MethodName := ⟨RX3, "openForHouse", "(I)V"⟩
abbrev cX3_beginShut : ByteArray := prog_5_method_9_code
def yX3_beginShut : MethodName := ⟨RX3, "beginShut", "(II)V"⟩
abbrev cX3_endShut : ByteArray := prog_5_method_10_code
def yX3_endShut : MethodName := ⟨RX3, "endShut", "(I)V"⟩
abbrev cX3_pass : ByteArray := prog_5_method_11_code
def yX3_pass : MethodName := ⟨RX3, "pass", "()V"⟩
abbrev cX3_tell : ByteArray := prog_5_method_12_code
def yX3_tell : MethodName := ⟨RX3, "tell", "()V"⟩
abbrev cX3_guardForHouses : ByteArray := prog_5_method_13_code
def yX3_guardForHouses : MethodName := ⟨RX3, "guardForHouses", "()V"⟩
abbrev cX3_takeBest : ByteArray := prog_5_method_14_code
def yX3_takeBest : MethodName := ⟨RX3, "takeBest", "(I)V"⟩
abbrev cX3_offer : ByteArray := prog_5_method_15_code
def yX3_offer : MethodName := ⟨RX3, "offer", "(II)V"⟩
abbrev cX3_isBetterThanHeld : ByteArray := prog_5_method_16_code
def yX3_isBetterThanHeld : MethodName := ⟨RX3, "isBetterThanHeld", "(II)Z"⟩
abbrev cX3_turn : ByteArray := prog_5_method_17_code
def yX3_turn : MethodName := ⟨RX3, "turn", "(I)V"⟩
abbrev cX3_turnTo : ByteArray := prog_5_method_18_code
def yX3_turnTo : MethodName := ⟨RX3, "turnTo", "(IZ)V"⟩
abbrev cX3_roleOf : ByteArray := prog_5_method_19_code
def yX3_roleOf : MethodName := ⟨RX3, "roleOf", "(I)I"⟩
abbrev cX3_isHeldBetter : ByteArray := prog_5_method_20_code
def yX3_isHeldBetter : MethodName := ⟨RX3, "isHeldBetter", "(I)Z"⟩
abbrev cX3_spreadStale : ByteArray := prog_5_method_21_code
def yX3_spreadStale : MethodName := ⟨RX3, "spreadStale", "()V"⟩
abbrev cX3_endStorms : ByteArray := prog_5_method_22_code
def yX3_endStorms : MethodName := ⟨RX3, "endStorms", "()V"⟩
abbrev cX3_measureWays : ByteArray := prog_5_method_23_code
def yX3_measureWays : MethodName := ⟨RX3, "measureWays", "(I)V"⟩
abbrev cX3_shorten : ByteArray := prog_5_method_24_code
def yX3_shorten : MethodName := ⟨RX3, "shorten", "(II)V"⟩
def RX4 : String := "SwitchFloor$Wiring"
def TX4 : u_T := fun k => match k with
  | 0 => ("SwitchFloor$Wiring", "peer", "[I", true)
  | 1 => ("SwitchFloor$Wiring", "cost", "[I", true)
  | 2 => ("SwitchFloor$Wiring", "house", "[I", true)
  | 3 => ("SwitchFloor$Wiring", "guard", "[I", true)
  | 4 => ("SwitchFloor$Wiring", "spotOfHouse", "[I", true)
  | 5 => ("SwitchFloor$Wiring", "rank", "[I", true)
  | 6 => ("SwitchFloor$Wiring", "wires", "I", false)
  | _ => ("SwitchFloor$Wiring", "houses", "I", false)
def tyX4 : Nat → FieldType := fun k => match k with
  | 0 => .array .int
  | 1 => .array .int
  | 2 => .array .int
  | 3 => .array .int
  | 4 => .array .int
  | 5 => .array .int
  | 6 => .int
  | _ => .int
abbrev wsX40 : List Cond := u_ws RX4 TX4 8
theorem nmX4 : ∀ a, a < 8 → ∀ b, b < 8 → a ≠ b → (TX4 a).2.1 ≠ (TX4 b).2.1 := by decide +kernel
theorem tyX4_ok : ∀ k, k < 8 → parseFieldDescriptor (TX4 k).2.2.1 = some (tyX4 k) := by decide +kernel
abbrev cX4_init : ByteArray := prog_6_method_1_code
def yX4_init : MethodName := ⟨RX4, "<init>", "()V"⟩
abbrev cX4_isBare : ByteArray := prog_6_method_2_code
def yX4_isBare : MethodName := ⟨RX4, "isBare", "(I)Z"⟩
abbrev cX4_isBetterName : ByteArray := prog_6_method_3_code
def yX4_isBetterName : MethodName := ⟨RX4, "isBetterName", "(II)Z"⟩
abbrev cX4_putWire : ByteArray := prog_6_method_4_code
def yX4_putWire : MethodName := ⟨RX4, "putWire", "(III)V"⟩
abbrev cX4_takeWire : ByteArray := prog_6_method_5_code
def yX4_takeWire : MethodName := ⟨RX4, "takeWire", "(II)V"⟩
abbrev cX4_putHouse : ByteArray := prog_6_method_6_code
def yX4_putHouse : MethodName := ⟨RX4, "putHouse", "(II)V"⟩
abbrev cX4_takeHouse : ByteArray := prog_6_method_7_code
def yX4_takeHouse : MethodName := ⟨RX4, "takeHouse", "(I)I"⟩
def RX5 : String := "SwitchFloor"
def TX5 : u_T := fun k => match k with
  | 0 => ("SwitchFloor", "wiring", "LSwitchFloor$Wiring;", true)
  | 1 => ("SwitchFloor", "tree", "LSwitchFloor$Tree;", true)
  | 2 => ("SwitchFloor", "ahead", "LSwitchFloor$Tree;", true)
  | 3 => ("SwitchFloor", "lanes", "LSwitchFloor$Lanes;", true)
  | 4 => ("SwitchFloor", "tables", "LSwitchFloor$Tables;", true)
  | 5 => ("SwitchFloor", "steps", "LSwitchFloor$Steps;", true)
  | 6 => ("SwitchFloor", "floods", "[I", true)
  | 7 => ("SwitchFloor", "gotFrames", "[I", true)
  | 8 => ("SwitchFloor", "overheardFrames", "[I", true)
  | _ => ("SwitchFloor", "floodLimit", "I", false)
def tyX5 : Nat → FieldType := fun k => match k with
  | 0 => .object "SwitchFloor$Wiring"
  | 1 => .object "SwitchFloor$Tree"
  | 2 => .object "SwitchFloor$Tree"
  | 3 => .object "SwitchFloor$Lanes"
  | 4 => .object "SwitchFloor$Tables"
  | 5 => .object "SwitchFloor$Steps"
  | 6 => .array .int
  | 7 => .array .int
  | 8 => .array .int
  | _ => .int
abbrev wsX50 : List Cond := u_ws RX5 TX5 10
theorem nmX5 : ∀ a, a < 10 → ∀ b, b < 10 → a ≠ b → (TX5 a).2.1 ≠ (TX5 b).2.1 := by decide +kernel
theorem tyX5_ok : ∀ k, k < 10 → parseFieldDescriptor (TX5 k).2.2.1 = some (tyX5 k) := by decide +kernel
abbrev cX5_init : ByteArray := prog_1_method_1_code
def yX5_init : MethodName := ⟨RX5, "<init>", "()V"⟩
abbrev cX5_wire : ByteArray := prog_1_method_2_code
def yX5_wire : MethodName := ⟨RX5, "wire", "(IIIII)I"⟩
abbrev cX5_free : ByteArray := prog_1_method_3_code
def yX5_free : MethodName := ⟨RX5, "free", "(II)I"⟩
abbrev cX5_house : ByteArray := prog_1_method_4_code
def yX5_house : MethodName := ⟨RX5, "house", "(III)I"⟩
abbrev cX5_rank : ByteArray := prog_1_method_5_code
def yX5_rank : MethodName := ⟨RX5, "rank", "(II)I"⟩
abbrev cX5_shut : ByteArray := prog_1_method_6_code
def yX5_shut : MethodName := ⟨RX5, "shut", "(II)Z"⟩
abbrev cX5_guard : ByteArray := prog_1_method_7_code
def yX5_guard : MethodName := ⟨RX5, "guard", "(III)I"⟩
abbrev cX5_plain : ByteArray := prog_1_method_8_code
def yX5_plain : MethodName := ⟨RX5, "plain", "(III)V"⟩
abbrev cX5_trunk : ByteArray := prog_1_method_9_code
def yX5_trunk : MethodName := ⟨RX5, "trunk", "(IIII)V"⟩
abbrev cX5_limit : ByteArray := prog_1_method_10_code
def yX5_limit : MethodName := ⟨RX5, "limit", "(I)I"⟩
abbrev cX5_beat : ByteArray := prog_1_method_11_code
def yX5_beat : MethodName := ⟨RX5, "beat", "(I)I"⟩
abbrev cX5_send : ByteArray := prog_1_method_12_code
def yX5_send : MethodName := ⟨RX5, "send", "(IIII)I"⟩
abbrev cX5_holds : ByteArray := prog_1_method_13_code
def yX5_holds : MethodName := ⟨RX5, "holds", "(II)I"⟩
abbrev cX5_port : ByteArray := prog_1_method_14_code
def yX5_port : MethodName := ⟨RX5, "port", "(III)I"⟩
abbrev cX5_table : ByteArray := prog_1_method_15_code
def yX5_table : MethodName := ⟨RX5, "table", "(III)I"⟩
abbrev cX5_got : ByteArray := prog_1_method_16_code
def yX5_got : MethodName := ⟨RX5, "got", "(IZ)I"⟩
abbrev cX5_isAtRest : ByteArray := prog_1_method_17_code
def yX5_isAtRest : MethodName := ⟨RX5, "isAtRest", "()Z"⟩
abbrev cX5_found : ByteArray := prog_1_method_18_code
def yX5_found : MethodName := ⟨RX5, "found", "(I)I"⟩
abbrev cX5_walk : ByteArray := prog_1_method_19_code
def yX5_walk : MethodName := ⟨RX5, "walk", "(II)I"⟩
abbrev cX5_needSwitch : ByteArray := prog_1_method_20_code
def yX5_needSwitch : MethodName := ⟨RX5, "needSwitch", "(I)V"⟩
abbrev cX5_needPort : ByteArray := prog_1_method_21_code
def yX5_needPort : MethodName := ⟨RX5, "needPort", "(II)V"⟩
abbrev cX5_needHouse : ByteArray := prog_1_method_22_code
def yX5_needHouse : MethodName := ⟨RX5, "needHouse", "(I)V"⟩
abbrev cX5_needLane : ByteArray := prog_1_method_23_code
def yX5_needLane : MethodName := ⟨RX5, "needLane", "(I)V"⟩
abbrev cX5_needWithin : ByteArray := prog_1_method_24_code
def yX5_needWithin : MethodName := ⟨RX5, "needWithin", "(III)V"⟩
abbrev cX5_spotOf : ByteArray := prog_1_method_25_code
def yX5_spotOf : MethodName := ⟨RX5, "spotOf", "(II)I"⟩
abbrev cX5_dropUse : ByteArray := prog_1_method_26_code
def yX5_dropUse : MethodName := ⟨RX5, "dropUse", "(I)V"⟩
abbrev cX5_shutUntil : ByteArray := prog_1_method_27_code
def yX5_shutUntil : MethodName := ⟨RX5, "shutUntil", "(II)V"⟩
abbrev cX5_passBeat : ByteArray := prog_1_method_28_code
def yX5_passBeat : MethodName := ⟨RX5, "passBeat", "()V"⟩
abbrev cX5_laneLetIn : ByteArray := prog_1_method_29_code
def yX5_laneLetIn : MethodName := ⟨RX5, "laneLetIn", "(II)I"⟩
abbrev cX5_wayTold : ByteArray := prog_1_method_30_code
def yX5_wayTold : MethodName := ⟨RX5, "wayTold", "(III)I"⟩
abbrev cX5_takeStep : ByteArray := prog_1_method_31_code
def yX5_takeStep : MethodName := ⟨RX5, "takeStep", "(III)I"⟩
abbrev cX5_flood : ByteArray := prog_1_method_32_code
def yX5_flood : MethodName := ⟨RX5, "flood", "(III)I"⟩
abbrev cX5_goOut : ByteArray := prog_1_method_33_code
def yX5_goOut : MethodName := ⟨RX5, "goOut", "(IIII)I"⟩
abbrev cX5_handOver : ByteArray := prog_1_method_34_code
def yX5_handOver : MethodName := ⟨RX5, "handOver", "(II)I"⟩
def RX6 : String := "SwitchFloorModel"
def TX6 : u_T := fun k => match k with
  | _ => ("", "", "", false)
def tyX6 : Nat → FieldType := fun k => match k with
  | _ => .int
abbrev wsX60 : List Cond := u_ws RX6 TX6 0
theorem nmX6 : ∀ a, a < 0 → ∀ b, b < 0 → a ≠ b → (TX6 a).2.1 ≠ (TX6 b).2.1 := by decide +kernel
theorem tyX6_ok : ∀ k, k < 0 → parseFieldDescriptor (TX6 k).2.2.1 = some (tyX6 k) := by decide +kernel
def RJ0 : String := "java/lang/String"
def TJ0 : u_T := fun k => match k with
  | _ => ("", "", "", false)
def tyJ0 : Nat → FieldType := fun k => match k with
  | _ => .int
abbrev wsJ00 : List Cond := u_ws RJ0 TJ0 0
theorem nmJ0 : ∀ a, a < 0 → ∀ b, b < 0 → a ≠ b → (TJ0 a).2.1 ≠ (TJ0 b).2.1 := by decide +kernel
theorem tyJ0_ok : ∀ k, k < 0 → parseFieldDescriptor (TJ0 k).2.2.1 = some (tyJ0 k) := by decide +kernel
def RL : String := "SwitchFloorLaw"
abbrev cL_part : ByteArray := method_2_code
def yL_part : MethodName := ⟨RL, "part", "([III)I"⟩
abbrev cL_does : ByteArray := method_3_code
def yL_does : MethodName := ⟨RL, "does", "(LSwitchFloor;IIIIII)I"⟩
abbrev cL_plained : ByteArray := method_4_code
def yL_plained : MethodName := ⟨RL, "plained", "(LSwitchFloor;III)I"⟩
abbrev cL_trunked : ByteArray := method_5_code
def yL_trunked : MethodName := ⟨RL, "trunked", "(LSwitchFloor;IIII)I"⟩
abbrev cL_isPassable : ByteArray := method_6_code
def yL_isPassable : MethodName := ⟨RL, "isPassable", "(LSwitchFloor;[II)Z"⟩
abbrev cL_isBetter : ByteArray := method_7_code
def yL_isBetter : MethodName := ⟨RL, "isBetter", "([III)Z"⟩
abbrev cL_found : ByteArray := method_8_code
def yL_found : MethodName := ⟨RL, "found", "(LSwitchFloor;[I[I[II)I"⟩
abbrev cL_isTree : ByteArray := method_9_code
def yL_isTree : MethodName := ⟨RL, "isTree", "(LSwitchFloor;[I[I[I)Z"⟩
abbrev cL_areAll : ByteArray := method_10_code
def yL_areAll : MethodName := ⟨RL, "areAll", "(LSwitchFloor;[I[I[I[I[I)Z"⟩
abbrev cL_isPort : ByteArray := method_11_code
def yL_isPort : MethodName := ⟨RL, "isPort", "(LSwitchFloor;[I[I[I[I[IIII)Z"⟩
abbrev cL_isSent : ByteArray := method_12_code
def yL_isSent : MethodName := ⟨RL, "isSent", "(LSwitchFloor;[I[I[III)Z"⟩
abbrev cL_law : ByteArray := code
def yL_law : MethodName := ⟨RL, "law", "([I)Z"⟩
def wsX0_init : List Cond := .code yX0_init cX0_init 2 none :: ([.methodLink RX0 3 objectInit, .instanceMethod objectInit, .code objectInit ⟨#[0xb1]⟩ 1 none, .arrayClass .int, .fieldLink RX0 9 "SwitchFloor$Lanes" "carried" "[I", .fieldLink RX0 15 "SwitchFloor$Lanes" "untagged" "[I"] ++ wsX00)
def wsX0_bitOf : List Cond := .code yX0_bitOf cX0_bitOf 1 (some .int) :: ([])
def wsX0_setUp : List Cond := .code yX0_setUp cX0_setUp 4 none :: ([.fieldLink RX0 9 "SwitchFloor$Lanes" "carried" "[I", .fieldLink RX0 15 "SwitchFloor$Lanes" "untagged" "[I"] ++ wsX00)
def wsX0_carries : List Cond := .code yX0_carries cX0_carries 3 (some .boolean) :: ([.fieldLink RX0 9 "SwitchFloor$Lanes" "carried" "[I", .methodLink RX0 18 yX0_bitOf, .static yX0_bitOf, .initialized RX0, .code yX0_bitOf cX0_bitOf 1 (some .int)] ++ wsX00)
def wsX0_laneIn : List Cond := .code yX0_laneIn cX0_laneIn 4 (some .int) :: ([.fieldLink RX0 15 "SwitchFloor$Lanes" "untagged" "[I", .methodLink RX0 22 yX0_carries, .instanceMethod yX0_carries, .selects RX0 yX0_carries yX0_carries, .initialized RX0, .code yX0_carries cX0_carries 3 (some .boolean), .fieldLink RX0 9 "SwitchFloor$Lanes" "carried" "[I", .methodLink RX0 18 yX0_bitOf, .static yX0_bitOf, .code yX0_bitOf cX0_bitOf 1 (some .int)] ++ wsX00)
def wsX0_tagOut : List Cond := .code yX0_tagOut cX0_tagOut 3 (some .int) :: ([.fieldLink RX0 15 "SwitchFloor$Lanes" "untagged" "[I"] ++ wsX00)
def wsX1_init : List Cond := .code yX1_init cX1_init 1 none :: ([.methodLink RX1 3 objectInit, .instanceMethod objectInit, .code objectInit ⟨#[0xb1]⟩ 1 none, .arrayClass .int, .fieldLink RX1 9 "SwitchFloor$Steps" "spot" "[I", .fieldLink RX1 15 "SwitchFloor$Steps" "tag" "[I", .fieldLink RX1 18 "SwitchFloor$Steps" "second" "[I", .fieldLink RX1 21 "SwitchFloor$Steps" "hops" "[I"] ++ wsX10)
def wsX1_restart : List Cond := .code yX1_restart cX1_restart 1 none :: ([.fieldLink RX1 24 "SwitchFloor$Steps" "size" "I"] ++ wsX10)
def wsX1_add : List Cond := .code yX1_add cX1_add 5 none :: ([.fieldLink RX1 24 "SwitchFloor$Steps" "size" "I", .fieldLink RX1 9 "SwitchFloor$Steps" "spot" "[I", .fieldLink RX1 15 "SwitchFloor$Steps" "tag" "[I", .fieldLink RX1 18 "SwitchFloor$Steps" "second" "[I", .fieldLink RX1 21 "SwitchFloor$Steps" "hops" "[I"] ++ wsX10)
def wsX2_init : List Cond := .code yX2_init cX2_init 2 none :: ([.methodLink RX2 3 objectInit, .instanceMethod objectInit, .code objectInit ⟨#[0xb1]⟩ 1 none, .arrayClass .int, .fieldLink RX2 11 "SwitchFloor$Tables" "heardBy" "[I", .fieldLink RX2 15 "SwitchFloor$Tables" "heardAt" "[I", .fieldLink RX2 18 "SwitchFloor$Tables" "entries" "[I"] ++ wsX20)
def wsX2_indexOf : List Cond := .code yX2_indexOf cX2_indexOf 3 (some .int) :: ([])
def wsX2_portFor : List Cond := .code yX2_portFor cX2_portFor 4 (some .int) :: ([.fieldLink RX2 11 "SwitchFloor$Tables" "heardBy" "[I", .methodLink RX2 21 yX2_indexOf, .static yX2_indexOf, .initialized RX2, .code yX2_indexOf cX2_indexOf 3 (some .int)] ++ wsX20)
def wsX2_hear : List Cond := .code yX2_hear cX2_hear 7 none :: ([.fieldLink RX2 11 "SwitchFloor$Tables" "heardBy" "[I", .fieldLink RX2 18 "SwitchFloor$Tables" "entries" "[I", .fieldLink RX2 15 "SwitchFloor$Tables" "heardAt" "[I", .methodLink RX2 21 yX2_indexOf, .static yX2_indexOf, .initialized RX2, .code yX2_indexOf cX2_indexOf 3 (some .int)] ++ wsX20)
def wsX2_drop : List Cond := .code yX2_drop cX2_drop 2 none :: ([.fieldLink RX2 11 "SwitchFloor$Tables" "heardBy" "[I", .fieldLink RX2 18 "SwitchFloor$Tables" "entries" "[I"] ++ wsX20)
def wsX2_forgetPort : List Cond := .code yX2_forgetPort cX2_forgetPort 4 none :: ([.fieldLink RX2 11 "SwitchFloor$Tables" "heardBy" "[I", .methodLink RX2 25 yX2_drop, .instanceMethod yX2_drop, .selects RX2 yX2_drop yX2_drop, .initialized RX2, .code yX2_drop cX2_drop 2 none, .fieldLink RX2 18 "SwitchFloor$Tables" "entries" "[I"] ++ wsX20)
def wsX2_empty : List Cond := .code yX2_empty cX2_empty 4 none :: ([.fieldLink RX2 11 "SwitchFloor$Tables" "heardBy" "[I", .fieldLink RX2 18 "SwitchFloor$Tables" "entries" "[I"] ++ wsX20)
def wsX2_dropOld : List Cond := .code yX2_dropOld cX2_dropOld 3 none :: ([.fieldLink RX2 11 "SwitchFloor$Tables" "heardBy" "[I", .fieldLink RX2 15 "SwitchFloor$Tables" "heardAt" "[I", .methodLink RX2 25 yX2_drop, .instanceMethod yX2_drop, .selects RX2 yX2_drop yX2_drop, .initialized RX2, .code yX2_drop cX2_drop 2 none, .fieldLink RX2 18 "SwitchFloor$Tables" "entries" "[I"] ++ wsX20)
def wsX3_init : List Cond := .code yX3_init cX3_init 3 none :: ([.methodLink RX3 3 objectInit, .instanceMethod objectInit, .code objectInit ⟨#[0xb1]⟩ 1 none, .arrayClass .int, .fieldLink RX3 9 "SwitchFloor$Tree" "root" "[I", .fieldLink RX3 15 "SwitchFloor$Tree" "cost" "[I", .fieldLink RX3 18 "SwitchFloor$Tree" "hops" "[I", .fieldLink RX3 21 "SwitchFloor$Tree" "rootPort" "[I", .fieldLink RX3 24 "SwitchFloor$Tree" "shutTill" "[I", .arrayClass .boolean, .fieldLink RX3 27 "SwitchFloor$Tree" "open" "[Z", .fieldLink RX3 31 "SwitchFloor$Tree" "role" "[I", .fieldLink RX3 34 "SwitchFloor$Tree" "waited" "[I", .fieldLink RX3 37 "SwitchFloor$Tree" "toldRoot" "[I", .fieldLink RX3 40 "SwitchFloor$Tree" "toldCost" "[I", .fieldLink RX3 43 "SwitchFloor$Tree" "toldHops" "[I", .fieldLink RX3 46 "SwitchFloor$Tree" "caught" "[Z", .fieldLink RX3 49 "SwitchFloor$Tree" "stale" "[Z", .fieldLink RX3 52 "SwitchFloor$Tree" "way" "[I", .fieldLink RX3 55 "SwitchFloor$Tree" "wiring" "LSwitchFloor$Wiring;"] ++ wsX30)
def wsX3_copyFrom : List Cond := .code yX3_copyFrom cX3_copyFrom 3 none :: ([.fieldLink RX3 9 "SwitchFloor$Tree" "root" "[I", .fieldLink RX3 15 "SwitchFloor$Tree" "cost" "[I", .fieldLink RX3 18 "SwitchFloor$Tree" "hops" "[I", .fieldLink RX3 21 "SwitchFloor$Tree" "rootPort" "[I", .fieldLink RX3 24 "SwitchFloor$Tree" "shutTill" "[I", .fieldLink RX3 27 "SwitchFloor$Tree" "open" "[Z", .fieldLink RX3 31 "SwitchFloor$Tree" "role" "[I", .fieldLink RX3 34 "SwitchFloor$Tree" "waited" "[I", .fieldLink RX3 59 "SwitchFloor$Tree" "beats" "I"] ++ wsX30)
def wsX3_looksLike : List Cond := .code yX3_looksLike cX3_looksLike 3 (some .boolean) :: ([.fieldLink RX3 9 "SwitchFloor$Tree" "root" "[I", .fieldLink RX3 15 "SwitchFloor$Tree" "cost" "[I", .fieldLink RX3 18 "SwitchFloor$Tree" "hops" "[I", .fieldLink RX3 27 "SwitchFloor$Tree" "open" "[Z", .fieldLink RX3 31 "SwitchFloor$Tree" "role" "[I"] ++ wsX30)
def wsX3_hasWaitingPort : List Cond := .code yX3_hasWaitingPort cX3_hasWaitingPort 2 (some .boolean) :: ([.fieldLink RX3 34 "SwitchFloor$Tree" "waited" "[I"] ++ wsX30)
def wsX3_isShut : List Cond := .code yX3_isShut cX3_isShut 2 (some .boolean) :: ([.fieldLink RX3 24 "SwitchFloor$Tree" "shutTill" "[I"] ++ wsX30)
def wsX3_isJoined : List Cond := .code yX3_isJoined cX3_isJoined 3 (some .boolean) :: ([.fieldLink RX3 55 "SwitchFloor$Tree" "wiring" "LSwitchFloor$Wiring;", .fieldLink RX3 63 "SwitchFloor$Wiring" "peer" "[I", .methodLink RX3 68 yX3_isShut, .instanceMethod yX3_isShut, .selects RX3 yX3_isShut yX3_isShut, .initialized RX3, .code yX3_isShut cX3_isShut 2 (some .boolean), .fieldLink RX3 24 "SwitchFloor$Tree" "shutTill" "[I"] ++ wsX30 ++ wsX40)
def wsX3_close : List Cond := .code yX3_close cX3_close 2 none :: ([.fieldLink RX3 27 "SwitchFloor$Tree" "open" "[Z", .fieldLink RX3 31 "SwitchFloor$Tree" "role" "[I", .fieldLink RX3 34 "SwitchFloor$Tree" "waited" "[I"] ++ wsX30)
def wsX3_openForHouse : List Cond := .code yX3_openForHouse cX3_openForHouse 2 none :: ([.fieldLink RX3 27 "SwitchFloor$Tree" "open" "[Z", .fieldLink RX3 55 "SwitchFloor$Tree" "wiring" "LSwitchFloor$Wiring;", .fieldLink RX3 72 "SwitchFloor$Wiring" "house" "[I", .methodLink RX3 68 yX3_isShut, .instanceMethod yX3_isShut, .selects RX3 yX3_isShut yX3_isShut, .initialized RX3, .code yX3_isShut cX3_isShut 2 (some .boolean), .fieldLink RX3 24 "SwitchFloor$Tree" "shutTill" "[I"] ++ wsX30 ++ wsX40)
def wsX3_beginShut : List Cond := .code yX3_beginShut cX3_beginShut 3 none :: ([.fieldLink RX3 24 "SwitchFloor$Tree" "shutTill" "[I", .methodLink RX3 75 yX3_close, .instanceMethod yX3_close, .selects RX3 yX3_close yX3_close, .initialized RX3, .code yX3_close cX3_close 2 none, .fieldLink RX3 27 "SwitchFloor$Tree" "open" "[Z", .fieldLink RX3 31 "SwitchFloor$Tree" "role" "[I", .fieldLink RX3 34 "SwitchFloor$Tree" "waited" "[I"] ++ wsX30)
def wsX3_endShut : List Cond := .code yX3_endShut cX3_endShut 2 none :: ([.fieldLink RX3 24 "SwitchFloor$Tree" "shutTill" "[I", .methodLink RX3 79 yX3_openForHouse, .instanceMethod yX3_openForHouse, .selects RX3 yX3_openForHouse yX3_openForHouse, .initialized RX3, .code yX3_openForHouse cX3_openForHouse 2 none, .fieldLink RX3 27 "SwitchFloor$Tree" "open" "[Z", .fieldLink RX3 55 "SwitchFloor$Tree" "wiring" "LSwitchFloor$Wiring;", .fieldLink RX3 72 "SwitchFloor$Wiring" "house" "[I", .methodLink RX3 68 yX3_isShut, .instanceMethod yX3_isShut, .selects RX3 yX3_isShut yX3_isShut, .code yX3_isShut cX3_isShut 2 (some .boolean)] ++ wsX30 ++ wsX40)
def wsX3_tell : List Cond := .code yX3_tell cX3_tell 3 none :: ([.fieldLink RX3 37 "SwitchFloor$Tree" "toldRoot" "[I", .fieldLink RX3 55 "SwitchFloor$Tree" "wiring" "LSwitchFloor$Wiring;", .fieldLink RX3 63 "SwitchFloor$Wiring" "peer" "[I", .fieldLink RX3 9 "SwitchFloor$Tree" "root" "[I", .fieldLink RX3 40 "SwitchFloor$Tree" "toldCost" "[I", .fieldLink RX3 15 "SwitchFloor$Tree" "cost" "[I", .fieldLink RX3 43 "SwitchFloor$Tree" "toldHops" "[I", .fieldLink RX3 18 "SwitchFloor$Tree" "hops" "[I", .methodLink RX3 100 yX3_isJoined, .instanceMethod yX3_isJoined, .selects RX3 yX3_isJoined yX3_isJoined, .initialized RX3, .code yX3_isJoined cX3_isJoined 3 (some .boolean), .methodLink RX3 68 yX3_isShut, .instanceMethod yX3_isShut, .selects RX3 yX3_isShut yX3_isShut, .code yX3_isShut cX3_isShut 2 (some .boolean), .fieldLink RX3 24 "SwitchFloor$Tree" "shutTill" "[I"] ++ wsX30 ++ wsX40)
def wsX3_guardForHouses : List Cond := .code yX3_guardForHouses cX3_guardForHouses 2 none :: ([.fieldLink RX3 46 "SwitchFloor$Tree" "caught" "[Z", .fieldLink RX3 55 "SwitchFloor$Tree" "wiring" "LSwitchFloor$Wiring;", .fieldLink RX3 103 "SwitchFloor$Wiring" "guard" "[I", .fieldLink RX3 37 "SwitchFloor$Tree" "toldRoot" "[I", .methodLink RX3 106 yX3_beginShut, .instanceMethod yX3_beginShut, .selects RX3 yX3_beginShut yX3_beginShut, .initialized RX3, .code yX3_beginShut cX3_beginShut 3 none, .fieldLink RX3 24 "SwitchFloor$Tree" "shutTill" "[I", .methodLink RX3 75 yX3_close, .instanceMethod yX3_close, .selects RX3 yX3_close yX3_close, .code yX3_close cX3_close 2 none, .fieldLink RX3 27 "SwitchFloor$Tree" "open" "[Z", .fieldLink RX3 31 "SwitchFloor$Tree" "role" "[I", .fieldLink RX3 34 "SwitchFloor$Tree" "waited" "[I"] ++ wsX30 ++ wsX40)
def wsX5_spotOf : List Cond := .code yX5_spotOf cX5_spotOf 2 (some .int) :: ([])
def wsX4_isBetterName : List Cond := .code yX4_isBetterName cX4_isBetterName 3 (some .boolean) :: ([.fieldLink RX4 27 "SwitchFloor$Wiring" "rank" "[I"] ++ wsX40)
def wsX3_isBetterThanHeld : List Cond := .code yX3_isBetterThanHeld cX3_isBetterThanHeld 6 (some .boolean) :: ([.fieldLink RX3 37 "SwitchFloor$Tree" "toldRoot" "[I", .fieldLink RX3 9 "SwitchFloor$Tree" "root" "[I", .fieldLink RX3 55 "SwitchFloor$Tree" "wiring" "LSwitchFloor$Wiring;", .fieldLink RX3 40 "SwitchFloor$Tree" "toldCost" "[I", .fieldLink RX3 124 "SwitchFloor$Wiring" "cost" "[I", .fieldLink RX3 15 "SwitchFloor$Tree" "cost" "[I", .fieldLink RX3 21 "SwitchFloor$Tree" "rootPort" "[I", .fieldLink RX3 63 "SwitchFloor$Wiring" "peer" "[I", .methodLink RX3 117 yX4_isBetterName, .instanceMethod yX4_isBetterName, .selects RX4 yX4_isBetterName yX4_isBetterName, .initialized RX4, .code yX4_isBetterName cX4_isBetterName 3 (some .boolean), .fieldLink RX4 27 "SwitchFloor$Wiring" "rank" "[I", .static yX5_spotOf, .initialized RX5, .code yX5_spotOf cX5_spotOf 2 (some .int)] ++ wsX30 ++ wsX40)
def wsX3_offer : List Cond := .code yX3_offer cX3_offer 3 none :: ([.fieldLink RX3 37 "SwitchFloor$Tree" "toldRoot" "[I", .fieldLink RX3 43 "SwitchFloor$Tree" "toldHops" "[I", .fieldLink RX3 9 "SwitchFloor$Tree" "root" "[I", .fieldLink RX3 15 "SwitchFloor$Tree" "cost" "[I", .fieldLink RX3 40 "SwitchFloor$Tree" "toldCost" "[I", .fieldLink RX3 55 "SwitchFloor$Tree" "wiring" "LSwitchFloor$Wiring;", .fieldLink RX3 124 "SwitchFloor$Wiring" "cost" "[I", .fieldLink RX3 18 "SwitchFloor$Tree" "hops" "[I", .fieldLink RX3 21 "SwitchFloor$Tree" "rootPort" "[I", .methodLink RX3 121 yX3_isBetterThanHeld, .instanceMethod yX3_isBetterThanHeld, .selects RX3 yX3_isBetterThanHeld yX3_isBetterThanHeld, .initialized RX3, .code yX3_isBetterThanHeld cX3_isBetterThanHeld 6 (some .boolean), .fieldLink RX3 63 "SwitchFloor$Wiring" "peer" "[I", .methodLink RX3 117 yX4_isBetterName, .instanceMethod yX4_isBetterName, .selects RX4 yX4_isBetterName yX4_isBetterName, .initialized RX4, .code yX4_isBetterName cX4_isBetterName 3 (some .boolean), .fieldLink RX4 27 "SwitchFloor$Wiring" "rank" "[I", .static yX5_spotOf, .initialized RX5, .code yX5_spotOf cX5_spotOf 2 (some .int)] ++ wsX30 ++ wsX40)
def wsX3_takeBest_r1 : List Cond := [Cond.fieldLink RX3 9 "SwitchFloor$Tree" "root" "[I", Cond.fieldLink RX3 15 "SwitchFloor$Tree" "cost" "[I", Cond.fieldLink RX3 18 "SwitchFloor$Tree" "hops" "[I", Cond.fieldLink RX3 21 "SwitchFloor$Tree" "rootPort" "[I", Cond.fieldLink RX3 55 "SwitchFloor$Tree" "wiring" "LSwitchFloor$Wiring;", Cond.fieldLink RX3 103 "SwitchFloor$Wiring" "guard" "[I", Cond.fieldLink RX3 37 "SwitchFloor$Tree" "toldRoot" "[I", Cond.static yX5_spotOf, Cond.initialized RX5, Cond.code yX5_spotOf cX5_spotOf 2 (some .int), Cond.methodLink RX3 114 yX3_offer, Cond.instanceMethod yX3_offer, Cond.selects RX3 yX3_offer yX3_offer, Cond.initialized RX3, Cond.code yX3_offer cX3_offer 3 none, Cond.fieldLink RX3 43 "SwitchFloor$Tree" "toldHops" "[I", Cond.fieldLink RX3 40 "SwitchFloor$Tree" "toldCost" "[I", Cond.fieldLink RX3 124 "SwitchFloor$Wiring" "cost" "[I", Cond.methodLink RX3 121 yX3_isBetterThanHeld, Cond.instanceMethod yX3_isBetterThanHeld, Cond.selects RX3 yX3_isBetterThanHeld yX3_isBetterThanHeld, Cond.code yX3_isBetterThanHeld cX3_isBetterThanHeld 6 (some .boolean), Cond.fieldLink RX3 63 "SwitchFloor$Wiring" "peer" "[I", Cond.methodLink RX3 117 yX4_isBetterName]
def wsX3_takeBest_r2 : List Cond := [Cond.instanceMethod yX4_isBetterName, Cond.selects RX4 yX4_isBetterName yX4_isBetterName, Cond.initialized RX4, Cond.code yX4_isBetterName cX4_isBetterName 3 (some .boolean), Cond.fieldLink RX4 27 "SwitchFloor$Wiring" "rank" "[I"]
def wsX3_takeBest : List Cond := .code yX3_takeBest cX3_takeBest 5 none :: ((wsX3_takeBest_r1 ++ wsX3_takeBest_r2) ++ wsX30 ++ wsX40)
def wsX3_isHeldBetter : List Cond := .code yX3_isHeldBetter cX3_isHeldBetter 3 (some .boolean) :: ([.fieldLink RX3 9 "SwitchFloor$Tree" "root" "[I", .fieldLink RX3 37 "SwitchFloor$Tree" "toldRoot" "[I", .fieldLink RX3 55 "SwitchFloor$Tree" "wiring" "LSwitchFloor$Wiring;", .fieldLink RX3 15 "SwitchFloor$Tree" "cost" "[I", .fieldLink RX3 40 "SwitchFloor$Tree" "toldCost" "[I", .fieldLink RX3 63 "SwitchFloor$Wiring" "peer" "[I", .methodLink RX3 117 yX4_isBetterName, .instanceMethod yX4_isBetterName, .selects RX4 yX4_isBetterName yX4_isBetterName, .initialized RX4, .code yX4_isBetterName cX4_isBetterName 3 (some .boolean), .fieldLink RX4 27 "SwitchFloor$Wiring" "rank" "[I"] ++ wsX30 ++ wsX40)
def wsX3_roleOf : List Cond := .code yX3_roleOf cX3_roleOf 2 (some .int) :: ([.fieldLink RX3 55 "SwitchFloor$Tree" "wiring" "LSwitchFloor$Wiring;", .fieldLink RX3 63 "SwitchFloor$Wiring" "peer" "[I", .fieldLink RX3 21 "SwitchFloor$Tree" "rootPort" "[I", .fieldLink RX3 37 "SwitchFloor$Tree" "toldRoot" "[I", .methodLink RX3 68 yX3_isShut, .instanceMethod yX3_isShut, .selects RX3 yX3_isShut yX3_isShut, .initialized RX3, .code yX3_isShut cX3_isShut 2 (some .boolean), .fieldLink RX3 24 "SwitchFloor$Tree" "shutTill" "[I", .methodLink RX3 133 yX3_isHeldBetter, .instanceMethod yX3_isHeldBetter, .selects RX3 yX3_isHeldBetter yX3_isHeldBetter, .code yX3_isHeldBetter cX3_isHeldBetter 3 (some .boolean), .fieldLink RX3 9 "SwitchFloor$Tree" "root" "[I", .fieldLink RX3 15 "SwitchFloor$Tree" "cost" "[I", .fieldLink RX3 40 "SwitchFloor$Tree" "toldCost" "[I", .methodLink RX3 117 yX4_isBetterName, .instanceMethod yX4_isBetterName, .selects RX4 yX4_isBetterName yX4_isBetterName, .initialized RX4, .code yX4_isBetterName cX4_isBetterName 3 (some .boolean), .fieldLink RX4 27 "SwitchFloor$Wiring" "rank" "[I"] ++ wsX30 ++ wsX40)
def wsX3_turnTo : List Cond := .code yX3_turnTo cX3_turnTo 3 none :: ([.fieldLink RX3 27 "SwitchFloor$Tree" "open" "[Z", .fieldLink RX3 49 "SwitchFloor$Tree" "stale" "[Z"] ++ wsX30)
def wsX3_turn_r1 : List Cond := [Cond.fieldLink RX3 31 "SwitchFloor$Tree" "role" "[I", Cond.fieldLink RX3 55 "SwitchFloor$Tree" "wiring" "LSwitchFloor$Wiring;", Cond.fieldLink RX3 63 "SwitchFloor$Wiring" "peer" "[I", Cond.fieldLink RX3 34 "SwitchFloor$Tree" "waited" "[I", Cond.fieldLink RX3 27 "SwitchFloor$Tree" "open" "[Z", Cond.methodLink RX3 125 yX3_roleOf, Cond.instanceMethod yX3_roleOf, Cond.selects RX3 yX3_roleOf yX3_roleOf, Cond.initialized RX3, Cond.code yX3_roleOf cX3_roleOf 2 (some .int), Cond.fieldLink RX3 21 "SwitchFloor$Tree" "rootPort" "[I", Cond.fieldLink RX3 37 "SwitchFloor$Tree" "toldRoot" "[I", Cond.methodLink RX3 68 yX3_isShut, Cond.instanceMethod yX3_isShut, Cond.selects RX3 yX3_isShut yX3_isShut, Cond.code yX3_isShut cX3_isShut 2 (some .boolean), Cond.fieldLink RX3 24 "SwitchFloor$Tree" "shutTill" "[I", Cond.methodLink RX3 133 yX3_isHeldBetter, Cond.instanceMethod yX3_isHeldBetter, Cond.selects RX3 yX3_isHeldBetter yX3_isHeldBetter, Cond.code yX3_isHeldBetter cX3_isHeldBetter 3 (some .boolean), Cond.fieldLink RX3 9 "SwitchFloor$Tree" "root" "[I", Cond.fieldLink RX3 15 "SwitchFloor$Tree" "cost" "[I", Cond.fieldLink RX3 40 "SwitchFloor$Tree" "toldCost" "[I"]
def wsX3_turn_r2 : List Cond := [Cond.methodLink RX3 117 yX4_isBetterName, Cond.instanceMethod yX4_isBetterName, Cond.selects RX4 yX4_isBetterName yX4_isBetterName, Cond.initialized RX4, Cond.code yX4_isBetterName cX4_isBetterName 3 (some .boolean), Cond.fieldLink RX4 27 "SwitchFloor$Wiring" "rank" "[I", Cond.methodLink RX3 129 yX3_turnTo, Cond.instanceMethod yX3_turnTo, Cond.selects RX3 yX3_turnTo yX3_turnTo, Cond.code yX3_turnTo cX3_turnTo 3 none, Cond.fieldLink RX3 49 "SwitchFloor$Tree" "stale" "[Z"]
def wsX3_turn : List Cond := .code yX3_turn cX3_turn 2 none :: ((wsX3_turn_r1 ++ wsX3_turn_r2) ++ wsX30 ++ wsX40)
def wsX3_spreadStale : List Cond := .code yX3_spreadStale cX3_spreadStale 3 none :: ([.fieldLink RX3 49 "SwitchFloor$Tree" "stale" "[Z", .fieldLink RX3 55 "SwitchFloor$Tree" "wiring" "LSwitchFloor$Wiring;", .fieldLink RX3 63 "SwitchFloor$Wiring" "peer" "[I", .methodLink RX3 100 yX3_isJoined, .instanceMethod yX3_isJoined, .selects RX3 yX3_isJoined yX3_isJoined, .initialized RX3, .code yX3_isJoined cX3_isJoined 3 (some .boolean), .methodLink RX3 68 yX3_isShut, .instanceMethod yX3_isShut, .selects RX3 yX3_isShut yX3_isShut, .code yX3_isShut cX3_isShut 2 (some .boolean), .fieldLink RX3 24 "SwitchFloor$Tree" "shutTill" "[I"] ++ wsX30 ++ wsX40)
def wsX3_endStorms : List Cond := .code yX3_endStorms cX3_endStorms 2 none :: ([.fieldLink RX3 24 "SwitchFloor$Tree" "shutTill" "[I", .fieldLink RX3 59 "SwitchFloor$Tree" "beats" "I", .methodLink RX3 136 yX3_endShut, .instanceMethod yX3_endShut, .selects RX3 yX3_endShut yX3_endShut, .initialized RX3, .code yX3_endShut cX3_endShut 2 none, .methodLink RX3 79 yX3_openForHouse, .instanceMethod yX3_openForHouse, .selects RX3 yX3_openForHouse yX3_openForHouse, .code yX3_openForHouse cX3_openForHouse 2 none, .fieldLink RX3 27 "SwitchFloor$Tree" "open" "[Z", .fieldLink RX3 55 "SwitchFloor$Tree" "wiring" "LSwitchFloor$Wiring;", .fieldLink RX3 72 "SwitchFloor$Wiring" "house" "[I", .methodLink RX3 68 yX3_isShut, .instanceMethod yX3_isShut, .selects RX3 yX3_isShut yX3_isShut, .code yX3_isShut cX3_isShut 2 (some .boolean)] ++ wsX30 ++ wsX40)
def wsX3_pass_r1 : List Cond := [Cond.fieldLink RX3 59 "SwitchFloor$Tree" "beats" "I", Cond.fieldLink RX3 49 "SwitchFloor$Tree" "stale" "[Z", Cond.methodLink RX3 82 yX3_tell, Cond.instanceMethod yX3_tell, Cond.selects RX3 yX3_tell yX3_tell, Cond.initialized RX3, Cond.code yX3_tell cX3_tell 3 none, Cond.fieldLink RX3 37 "SwitchFloor$Tree" "toldRoot" "[I", Cond.fieldLink RX3 55 "SwitchFloor$Tree" "wiring" "LSwitchFloor$Wiring;", Cond.fieldLink RX3 63 "SwitchFloor$Wiring" "peer" "[I", Cond.fieldLink RX3 9 "SwitchFloor$Tree" "root" "[I", Cond.fieldLink RX3 40 "SwitchFloor$Tree" "toldCost" "[I", Cond.fieldLink RX3 15 "SwitchFloor$Tree" "cost" "[I", Cond.fieldLink RX3 43 "SwitchFloor$Tree" "toldHops" "[I", Cond.fieldLink RX3 18 "SwitchFloor$Tree" "hops" "[I", Cond.methodLink RX3 100 yX3_isJoined, Cond.instanceMethod yX3_isJoined, Cond.selects RX3 yX3_isJoined yX3_isJoined, Cond.code yX3_isJoined cX3_isJoined 3 (some .boolean), Cond.methodLink RX3 68 yX3_isShut, Cond.instanceMethod yX3_isShut, Cond.selects RX3 yX3_isShut yX3_isShut, Cond.code yX3_isShut cX3_isShut 2 (some .boolean), Cond.fieldLink RX3 24 "SwitchFloor$Tree" "shutTill" "[I"]
def wsX3_pass_r2 : List Cond := [Cond.methodLink RX3 85 yX3_guardForHouses, Cond.instanceMethod yX3_guardForHouses, Cond.selects RX3 yX3_guardForHouses yX3_guardForHouses, Cond.code yX3_guardForHouses cX3_guardForHouses 2 none, Cond.fieldLink RX3 46 "SwitchFloor$Tree" "caught" "[Z", Cond.fieldLink RX3 103 "SwitchFloor$Wiring" "guard" "[I", Cond.methodLink RX3 106 yX3_beginShut, Cond.instanceMethod yX3_beginShut, Cond.selects RX3 yX3_beginShut yX3_beginShut, Cond.code yX3_beginShut cX3_beginShut 3 none, Cond.methodLink RX3 75 yX3_close, Cond.instanceMethod yX3_close, Cond.selects RX3 yX3_close yX3_close, Cond.code yX3_close cX3_close 2 none, Cond.fieldLink RX3 27 "SwitchFloor$Tree" "open" "[Z", Cond.fieldLink RX3 31 "SwitchFloor$Tree" "role" "[I", Cond.fieldLink RX3 34 "SwitchFloor$Tree" "waited" "[I", Cond.methodLink RX3 88 yX3_takeBest, Cond.instanceMethod yX3_takeBest, Cond.selects RX3 yX3_takeBest yX3_takeBest, Cond.code yX3_takeBest cX3_takeBest 5 none, Cond.fieldLink RX3 21 "SwitchFloor$Tree" "rootPort" "[I", Cond.static yX5_spotOf, Cond.initialized RX5]
def wsX3_pass_r3 : List Cond := [Cond.code yX5_spotOf cX5_spotOf 2 (some .int), Cond.methodLink RX3 114 yX3_offer, Cond.instanceMethod yX3_offer, Cond.selects RX3 yX3_offer yX3_offer, Cond.code yX3_offer cX3_offer 3 none, Cond.fieldLink RX3 124 "SwitchFloor$Wiring" "cost" "[I", Cond.methodLink RX3 121 yX3_isBetterThanHeld, Cond.instanceMethod yX3_isBetterThanHeld, Cond.selects RX3 yX3_isBetterThanHeld yX3_isBetterThanHeld, Cond.code yX3_isBetterThanHeld cX3_isBetterThanHeld 6 (some .boolean), Cond.methodLink RX3 117 yX4_isBetterName, Cond.instanceMethod yX4_isBetterName, Cond.selects RX4 yX4_isBetterName yX4_isBetterName, Cond.initialized RX4, Cond.code yX4_isBetterName cX4_isBetterName 3 (some .boolean), Cond.fieldLink RX4 27 "SwitchFloor$Wiring" "rank" "[I", Cond.methodLink RX3 91 yX3_turn, Cond.instanceMethod yX3_turn, Cond.selects RX3 yX3_turn yX3_turn, Cond.code yX3_turn cX3_turn 2 none, Cond.methodLink RX3 125 yX3_roleOf, Cond.instanceMethod yX3_roleOf, Cond.selects RX3 yX3_roleOf yX3_roleOf, Cond.code yX3_roleOf cX3_roleOf 2 (some .int)]
def wsX3_pass_r4 : List Cond := [Cond.methodLink RX3 133 yX3_isHeldBetter, Cond.instanceMethod yX3_isHeldBetter, Cond.selects RX3 yX3_isHeldBetter yX3_isHeldBetter, Cond.code yX3_isHeldBetter cX3_isHeldBetter 3 (some .boolean), Cond.methodLink RX3 129 yX3_turnTo, Cond.instanceMethod yX3_turnTo, Cond.selects RX3 yX3_turnTo yX3_turnTo, Cond.code yX3_turnTo cX3_turnTo 3 none, Cond.methodLink RX3 94 yX3_spreadStale, Cond.instanceMethod yX3_spreadStale, Cond.selects RX3 yX3_spreadStale yX3_spreadStale, Cond.code yX3_spreadStale cX3_spreadStale 3 none, Cond.methodLink RX3 97 yX3_endStorms, Cond.instanceMethod yX3_endStorms, Cond.selects RX3 yX3_endStorms yX3_endStorms, Cond.code yX3_endStorms cX3_endStorms 2 none, Cond.methodLink RX3 136 yX3_endShut, Cond.instanceMethod yX3_endShut, Cond.selects RX3 yX3_endShut yX3_endShut, Cond.code yX3_endShut cX3_endShut 2 none, Cond.methodLink RX3 79 yX3_openForHouse, Cond.instanceMethod yX3_openForHouse, Cond.selects RX3 yX3_openForHouse yX3_openForHouse, Cond.code yX3_openForHouse cX3_openForHouse 2 none]
def wsX3_pass_r5 : List Cond := [Cond.fieldLink RX3 72 "SwitchFloor$Wiring" "house" "[I"]
def wsX3_pass : List Cond := .code yX3_pass cX3_pass 2 none :: ((wsX3_pass_r1 ++ (wsX3_pass_r2 ++ (wsX3_pass_r3 ++ (wsX3_pass_r4 ++ wsX3_pass_r5)))) ++ wsX30 ++ wsX40)
def wsX3_shorten : List Cond := .code yX3_shorten cX3_shorten 3 none :: ([.fieldLink RX3 52 "SwitchFloor$Tree" "way" "[I"] ++ wsX30)
def wsX3_measureWays : List Cond := .code yX3_measureWays cX3_measureWays 4 none :: ([.fieldLink RX3 52 "SwitchFloor$Tree" "way" "[I", .fieldLink RX3 55 "SwitchFloor$Tree" "wiring" "LSwitchFloor$Wiring;", .fieldLink RX3 63 "SwitchFloor$Wiring" "peer" "[I", .fieldLink RX3 124 "SwitchFloor$Wiring" "cost" "[I", .methodLink RX3 100 yX3_isJoined, .instanceMethod yX3_isJoined, .selects RX3 yX3_isJoined yX3_isJoined, .initialized RX3, .code yX3_isJoined cX3_isJoined 3 (some .boolean), .methodLink RX3 68 yX3_isShut, .instanceMethod yX3_isShut, .selects RX3 yX3_isShut yX3_isShut, .code yX3_isShut cX3_isShut 2 (some .boolean), .fieldLink RX3 24 "SwitchFloor$Tree" "shutTill" "[I", .methodLink RX3 139 yX3_shorten, .instanceMethod yX3_shorten, .selects RX3 yX3_shorten yX3_shorten, .code yX3_shorten cX3_shorten 3 none] ++ wsX30 ++ wsX40)
def wsX4_init : List Cond := .code yX4_init cX4_init 2 none :: ([.methodLink RX4 3 objectInit, .instanceMethod objectInit, .code objectInit ⟨#[0xb1]⟩ 1 none, .arrayClass .int, .fieldLink RX4 9 "SwitchFloor$Wiring" "peer" "[I", .fieldLink RX4 15 "SwitchFloor$Wiring" "cost" "[I", .fieldLink RX4 18 "SwitchFloor$Wiring" "house" "[I", .fieldLink RX4 21 "SwitchFloor$Wiring" "guard" "[I", .fieldLink RX4 24 "SwitchFloor$Wiring" "spotOfHouse" "[I", .fieldLink RX4 27 "SwitchFloor$Wiring" "rank" "[I"] ++ wsX40)
def wsX4_isBare : List Cond := .code yX4_isBare cX4_isBare 2 (some .boolean) :: ([.fieldLink RX4 9 "SwitchFloor$Wiring" "peer" "[I", .fieldLink RX4 18 "SwitchFloor$Wiring" "house" "[I"] ++ wsX40)
def wsX4_putWire : List Cond := .code yX4_putWire cX4_putWire 4 none :: ([.fieldLink RX4 9 "SwitchFloor$Wiring" "peer" "[I", .fieldLink RX4 15 "SwitchFloor$Wiring" "cost" "[I", .fieldLink RX4 30 "SwitchFloor$Wiring" "wires" "I"] ++ wsX40)
def wsX4_takeWire : List Cond := .code yX4_takeWire cX4_takeWire 3 none :: ([.fieldLink RX4 9 "SwitchFloor$Wiring" "peer" "[I", .fieldLink RX4 30 "SwitchFloor$Wiring" "wires" "I"] ++ wsX40)
def wsX4_putHouse : List Cond := .code yX4_putHouse cX4_putHouse 3 none :: ([.fieldLink RX4 18 "SwitchFloor$Wiring" "house" "[I", .fieldLink RX4 24 "SwitchFloor$Wiring" "spotOfHouse" "[I", .fieldLink RX4 34 "SwitchFloor$Wiring" "houses" "I"] ++ wsX40)
def wsX4_takeHouse : List Cond := .code yX4_takeHouse cX4_takeHouse 3 (some .int) :: ([.fieldLink RX4 18 "SwitchFloor$Wiring" "house" "[I", .fieldLink RX4 24 "SwitchFloor$Wiring" "spotOfHouse" "[I", .fieldLink RX4 34 "SwitchFloor$Wiring" "houses" "I"] ++ wsX40)
def wsX5_init_r1 : List Cond := [Cond.methodLink RX5 3 objectInit, Cond.instanceMethod objectInit, Cond.code objectInit ⟨#[0xb1]⟩ 1 none, Cond.classLink RX5 9 RX4, Cond.instantiable RX4 8, Cond.initialized RX4, Cond.fieldLink RX5 12 "SwitchFloor" "wiring" "LSwitchFloor$Wiring;", Cond.classLink RX5 16 RX3, Cond.instantiable RX3 16, Cond.initialized RX3, Cond.fieldLink RX5 21 "SwitchFloor" "tree" "LSwitchFloor$Tree;", Cond.fieldLink RX5 25 "SwitchFloor" "ahead" "LSwitchFloor$Tree;", Cond.classLink RX5 28 RX0, Cond.instantiable RX0 2, Cond.initialized RX0, Cond.fieldLink RX5 31 "SwitchFloor" "lanes" "LSwitchFloor$Lanes;", Cond.classLink RX5 35 RX2, Cond.instantiable RX2 3, Cond.initialized RX2, Cond.fieldLink RX5 38 "SwitchFloor" "tables" "LSwitchFloor$Tables;", Cond.classLink RX5 42 RX1, Cond.instantiable RX1 5, Cond.initialized RX1, Cond.fieldLink RX5 45 "SwitchFloor" "steps" "LSwitchFloor$Steps;"]
def wsX5_init_r2 : List Cond := [Cond.arrayClass .int, Cond.fieldLink RX5 49 "SwitchFloor" "floods" "[I", Cond.fieldLink RX5 53 "SwitchFloor" "gotFrames" "[I", Cond.fieldLink RX5 56 "SwitchFloor" "overheardFrames" "[I", Cond.fieldLink RX5 59 "SwitchFloor" "floodLimit" "I", Cond.methodLink RX5 11 yX4_init, Cond.instanceMethod yX4_init, Cond.code yX4_init cX4_init 2 none, Cond.methodLink RX4 3 objectInit, Cond.fieldLink RX4 9 "SwitchFloor$Wiring" "peer" "[I", Cond.fieldLink RX4 15 "SwitchFloor$Wiring" "cost" "[I", Cond.fieldLink RX4 18 "SwitchFloor$Wiring" "house" "[I", Cond.fieldLink RX4 21 "SwitchFloor$Wiring" "guard" "[I", Cond.fieldLink RX4 24 "SwitchFloor$Wiring" "spotOfHouse" "[I", Cond.fieldLink RX4 27 "SwitchFloor$Wiring" "rank" "[I", Cond.methodLink RX5 18 yX3_init, Cond.instanceMethod yX3_init, Cond.code yX3_init cX3_init 3 none, Cond.methodLink RX3 3 objectInit, Cond.fieldLink RX3 9 "SwitchFloor$Tree" "root" "[I", Cond.fieldLink RX3 15 "SwitchFloor$Tree" "cost" "[I", Cond.fieldLink RX3 18 "SwitchFloor$Tree" "hops" "[I", Cond.fieldLink RX3 21 "SwitchFloor$Tree" "rootPort" "[I", Cond.fieldLink RX3 24 "SwitchFloor$Tree" "shutTill" "[I"]
def wsX5_init_r3 : List Cond := [Cond.arrayClass .boolean, Cond.fieldLink RX3 27 "SwitchFloor$Tree" "open" "[Z", Cond.fieldLink RX3 31 "SwitchFloor$Tree" "role" "[I", Cond.fieldLink RX3 34 "SwitchFloor$Tree" "waited" "[I", Cond.fieldLink RX3 37 "SwitchFloor$Tree" "toldRoot" "[I", Cond.fieldLink RX3 40 "SwitchFloor$Tree" "toldCost" "[I", Cond.fieldLink RX3 43 "SwitchFloor$Tree" "toldHops" "[I", Cond.fieldLink RX3 46 "SwitchFloor$Tree" "caught" "[Z", Cond.fieldLink RX3 49 "SwitchFloor$Tree" "stale" "[Z", Cond.fieldLink RX3 52 "SwitchFloor$Tree" "way" "[I", Cond.fieldLink RX3 55 "SwitchFloor$Tree" "wiring" "LSwitchFloor$Wiring;", Cond.methodLink RX5 30 yX0_init, Cond.instanceMethod yX0_init, Cond.code yX0_init cX0_init 2 none, Cond.methodLink RX0 3 objectInit, Cond.fieldLink RX0 9 "SwitchFloor$Lanes" "carried" "[I", Cond.fieldLink RX0 15 "SwitchFloor$Lanes" "untagged" "[I", Cond.methodLink RX5 37 yX2_init, Cond.instanceMethod yX2_init, Cond.code yX2_init cX2_init 2 none, Cond.methodLink RX2 3 objectInit, Cond.fieldLink RX2 11 "SwitchFloor$Tables" "heardBy" "[I", Cond.fieldLink RX2 15 "SwitchFloor$Tables" "heardAt" "[I", Cond.fieldLink RX2 18 "SwitchFloor$Tables" "entries" "[I"]
def wsX5_init_r4 : List Cond := [Cond.instanceMethod yX1_init, Cond.code yX1_init cX1_init 1 none, Cond.methodLink RX1 3 objectInit, Cond.fieldLink RX1 9 "SwitchFloor$Steps" "spot" "[I", Cond.fieldLink RX1 15 "SwitchFloor$Steps" "tag" "[I", Cond.fieldLink RX1 18 "SwitchFloor$Steps" "second" "[I", Cond.fieldLink RX1 21 "SwitchFloor$Steps" "hops" "[I"]
def wsX5_init : List Cond := .code yX5_init cX5_init 2 none :: ((wsX5_init_r1 ++ (wsX5_init_r2 ++ (wsX5_init_r3 ++ wsX5_init_r4))) ++ wsX40 ++ wsX50 ++ wsX30 ++ wsX00 ++ wsX20 ++ wsX10)
def wsX5_needSwitch : List Cond := .code yX5_needSwitch cX5_needSwitch 1 none :: ([.classLink RX5 251 "java/lang/IndexOutOfBoundsException", .initialized "java/lang/IndexOutOfBoundsException"] ++ (vx_atS RX5 255 "java/lang/IndexOutOfBoundsException" ["java/lang/RuntimeException", "java/lang/Exception"]).filter goodWord)
def wsX5_needPort : List Cond := .code yX5_needPort cX5_needPort 2 none :: ([.classLink RX5 251 "java/lang/IndexOutOfBoundsException", .initialized "java/lang/IndexOutOfBoundsException", .methodLink RX5 130 yX5_needSwitch, .static yX5_needSwitch, .initialized RX5, .code yX5_needSwitch cX5_needSwitch 1 none] ++ (vx_atS RX5 255 "java/lang/IndexOutOfBoundsException" ["java/lang/RuntimeException", "java/lang/Exception"]).filter goodWord)
def wsX5_needWithin : List Cond := .code yX5_needWithin cX5_needWithin 3 none :: ([.classLink RX5 67 "java/lang/IllegalArgumentException", .initialized "java/lang/IllegalArgumentException"] ++ (vx_atS RX5 71 "java/lang/IllegalArgumentException" ["java/lang/RuntimeException", "java/lang/Exception"]).filter goodWord)
def wsX5_wire_r1 : List Cond := [Cond.classLink RX5 67 "java/lang/IllegalArgumentException", Cond.initialized "java/lang/IllegalArgumentException", Cond.classLink RX5 86 "java/lang/IllegalStateException", Cond.initialized "java/lang/IllegalStateException", Cond.fieldLink RX5 12 "SwitchFloor" "wiring" "LSwitchFloor$Wiring;", Cond.fieldLink RX5 94 "SwitchFloor$Wiring" "wires" "I", Cond.methodLink RX5 63 yX5_needPort, Cond.static yX5_needPort, Cond.initialized RX5, Cond.code yX5_needPort cX5_needPort 2 none, Cond.classLink RX5 251 "java/lang/IndexOutOfBoundsException", Cond.initialized "java/lang/IndexOutOfBoundsException", Cond.methodLink RX5 130 yX5_needSwitch, Cond.static yX5_needSwitch, Cond.code yX5_needSwitch cX5_needSwitch 1 none, Cond.methodLink RX5 74 yX5_needWithin, Cond.static yX5_needWithin, Cond.code yX5_needWithin cX5_needWithin 3 none, Cond.methodLink RX5 78 yX5_spotOf, Cond.static yX5_spotOf, Cond.code yX5_spotOf cX5_spotOf 2 (some .int), Cond.methodLink RX5 82 yX4_isBare, Cond.instanceMethod yX4_isBare, Cond.selects RX4 yX4_isBare yX4_isBare]
def wsX5_wire_r2 : List Cond := [Cond.initialized RX4, Cond.code yX4_isBare cX4_isBare 2 (some .boolean), Cond.fieldLink RX4 9 "SwitchFloor$Wiring" "peer" "[I", Cond.fieldLink RX4 18 "SwitchFloor$Wiring" "house" "[I", Cond.methodLink RX5 91 yX4_putWire, Cond.instanceMethod yX4_putWire, Cond.selects RX4 yX4_putWire yX4_putWire, Cond.code yX4_putWire cX4_putWire 4 none, Cond.fieldLink RX4 15 "SwitchFloor$Wiring" "cost" "[I", Cond.fieldLink RX4 30 "SwitchFloor$Wiring" "wires" "I"]
def wsX5_wire : List Cond := .code yX5_wire cX5_wire 8 (some .int) :: ((wsX5_wire_r1 ++ wsX5_wire_r2) ++ wsX50 ++ wsX40 ++ (vx_atS RX5 71 "java/lang/IllegalArgumentException" ["java/lang/RuntimeException", "java/lang/Exception"]).filter goodWord ++ (vx_atS RX5 90 "java/lang/IllegalStateException" ["java/lang/RuntimeException", "java/lang/Exception"]).filter goodWord ++ (vx_atS RX5 255 "java/lang/IndexOutOfBoundsException" ["java/lang/RuntimeException", "java/lang/Exception"]).filter goodWord)
def wsX5_dropUse : List Cond := .code yX5_dropUse cX5_dropUse 2 none :: ([.fieldLink RX5 21 "SwitchFloor" "tree" "LSwitchFloor$Tree;", .fieldLink RX5 38 "SwitchFloor" "tables" "LSwitchFloor$Tables;", .methodLink RX5 264 yX3_close, .instanceMethod yX3_close, .selects RX3 yX3_close yX3_close, .initialized RX3, .code yX3_close cX3_close 2 none, .fieldLink RX3 27 "SwitchFloor$Tree" "open" "[Z", .fieldLink RX3 31 "SwitchFloor$Tree" "role" "[I", .fieldLink RX3 34 "SwitchFloor$Tree" "waited" "[I", .methodLink RX5 267 yX2_forgetPort, .instanceMethod yX2_forgetPort, .selects RX2 yX2_forgetPort yX2_forgetPort, .initialized RX2, .code yX2_forgetPort cX2_forgetPort 4 none, .fieldLink RX2 11 "SwitchFloor$Tables" "heardBy" "[I", .methodLink RX2 25 yX2_drop, .instanceMethod yX2_drop, .selects RX2 yX2_drop yX2_drop, .code yX2_drop cX2_drop 2 none, .fieldLink RX2 18 "SwitchFloor$Tables" "entries" "[I"] ++ wsX50 ++ wsX30 ++ wsX20)
def wsX5_free_r1 : List Cond := [Cond.classLink RX5 86 "java/lang/IllegalStateException", Cond.initialized "java/lang/IllegalStateException", Cond.fieldLink RX5 12 "SwitchFloor" "wiring" "LSwitchFloor$Wiring;", Cond.fieldLink RX5 99 "SwitchFloor$Wiring" "peer" "[I", Cond.methodLink RX5 63 yX5_needPort, Cond.static yX5_needPort, Cond.initialized RX5, Cond.code yX5_needPort cX5_needPort 2 none, Cond.classLink RX5 251 "java/lang/IndexOutOfBoundsException", Cond.initialized "java/lang/IndexOutOfBoundsException", Cond.methodLink RX5 130 yX5_needSwitch, Cond.static yX5_needSwitch, Cond.code yX5_needSwitch cX5_needSwitch 1 none, Cond.methodLink RX5 78 yX5_spotOf, Cond.static yX5_spotOf, Cond.code yX5_spotOf cX5_spotOf 2 (some .int), Cond.methodLink RX5 82 yX4_isBare, Cond.instanceMethod yX4_isBare, Cond.selects RX4 yX4_isBare yX4_isBare, Cond.initialized RX4, Cond.code yX4_isBare cX4_isBare 2 (some .boolean), Cond.fieldLink RX4 9 "SwitchFloor$Wiring" "peer" "[I", Cond.fieldLink RX4 18 "SwitchFloor$Wiring" "house" "[I", Cond.methodLink RX5 102 yX5_dropUse]
def wsX5_free_r2 : List Cond := [Cond.instanceMethod yX5_dropUse, Cond.selects RX5 yX5_dropUse yX5_dropUse, Cond.code yX5_dropUse cX5_dropUse 2 none, Cond.fieldLink RX5 21 "SwitchFloor" "tree" "LSwitchFloor$Tree;", Cond.fieldLink RX5 38 "SwitchFloor" "tables" "LSwitchFloor$Tables;", Cond.methodLink RX5 264 yX3_close, Cond.instanceMethod yX3_close, Cond.selects RX3 yX3_close yX3_close, Cond.initialized RX3, Cond.code yX3_close cX3_close 2 none, Cond.fieldLink RX3 27 "SwitchFloor$Tree" "open" "[Z", Cond.fieldLink RX3 31 "SwitchFloor$Tree" "role" "[I", Cond.fieldLink RX3 34 "SwitchFloor$Tree" "waited" "[I", Cond.methodLink RX5 267 yX2_forgetPort, Cond.instanceMethod yX2_forgetPort, Cond.selects RX2 yX2_forgetPort yX2_forgetPort, Cond.initialized RX2, Cond.code yX2_forgetPort cX2_forgetPort 4 none, Cond.fieldLink RX2 11 "SwitchFloor$Tables" "heardBy" "[I", Cond.methodLink RX2 25 yX2_drop, Cond.instanceMethod yX2_drop, Cond.selects RX2 yX2_drop yX2_drop, Cond.code yX2_drop cX2_drop 2 none, Cond.fieldLink RX2 18 "SwitchFloor$Tables" "entries" "[I"]
def wsX5_free_r3 : List Cond := [Cond.methodLink RX5 106 yX4_takeHouse, Cond.instanceMethod yX4_takeHouse, Cond.selects RX4 yX4_takeHouse yX4_takeHouse, Cond.code yX4_takeHouse cX4_takeHouse 3 (some .int), Cond.fieldLink RX4 24 "SwitchFloor$Wiring" "spotOfHouse" "[I", Cond.fieldLink RX4 34 "SwitchFloor$Wiring" "houses" "I", Cond.methodLink RX5 110 yX4_takeWire, Cond.instanceMethod yX4_takeWire, Cond.selects RX4 yX4_takeWire yX4_takeWire, Cond.code yX4_takeWire cX4_takeWire 3 none, Cond.fieldLink RX4 30 "SwitchFloor$Wiring" "wires" "I"]
def wsX5_free : List Cond := .code yX5_free cX5_free 5 (some .int) :: ((wsX5_free_r1 ++ (wsX5_free_r2 ++ wsX5_free_r3)) ++ wsX50 ++ wsX40 ++ wsX30 ++ wsX20 ++ (vx_atS RX5 90 "java/lang/IllegalStateException" ["java/lang/RuntimeException", "java/lang/Exception"]).filter goodWord ++ (vx_atS RX5 255 "java/lang/IndexOutOfBoundsException" ["java/lang/RuntimeException", "java/lang/Exception"]).filter goodWord)
def wsX5_needHouse : List Cond := .code yX5_needHouse cX5_needHouse 1 none :: ([.classLink RX5 251 "java/lang/IndexOutOfBoundsException", .initialized "java/lang/IndexOutOfBoundsException"] ++ (vx_atS RX5 255 "java/lang/IndexOutOfBoundsException" ["java/lang/RuntimeException", "java/lang/Exception"]).filter goodWord)
def wsX5_house_r1 : List Cond := [Cond.classLink RX5 86 "java/lang/IllegalStateException", Cond.initialized "java/lang/IllegalStateException", Cond.fieldLink RX5 12 "SwitchFloor" "wiring" "LSwitchFloor$Wiring;", Cond.fieldLink RX5 116 "SwitchFloor$Wiring" "spotOfHouse" "[I", Cond.fieldLink RX5 21 "SwitchFloor" "tree" "LSwitchFloor$Tree;", Cond.fieldLink RX5 127 "SwitchFloor$Wiring" "houses" "I", Cond.methodLink RX5 63 yX5_needPort, Cond.static yX5_needPort, Cond.initialized RX5, Cond.code yX5_needPort cX5_needPort 2 none, Cond.classLink RX5 251 "java/lang/IndexOutOfBoundsException", Cond.initialized "java/lang/IndexOutOfBoundsException", Cond.methodLink RX5 130 yX5_needSwitch, Cond.static yX5_needSwitch, Cond.code yX5_needSwitch cX5_needSwitch 1 none, Cond.methodLink RX5 113 yX5_needHouse, Cond.static yX5_needHouse, Cond.code yX5_needHouse cX5_needHouse 1 none, Cond.methodLink RX5 78 yX5_spotOf, Cond.static yX5_spotOf, Cond.code yX5_spotOf cX5_spotOf 2 (some .int), Cond.methodLink RX5 82 yX4_isBare, Cond.instanceMethod yX4_isBare, Cond.selects RX4 yX4_isBare yX4_isBare]
def wsX5_house_r2 : List Cond := [Cond.initialized RX4, Cond.code yX4_isBare cX4_isBare 2 (some .boolean), Cond.fieldLink RX4 9 "SwitchFloor$Wiring" "peer" "[I", Cond.fieldLink RX4 18 "SwitchFloor$Wiring" "house" "[I", Cond.methodLink RX5 121 yX4_putHouse, Cond.instanceMethod yX4_putHouse, Cond.selects RX4 yX4_putHouse yX4_putHouse, Cond.code yX4_putHouse cX4_putHouse 3 none, Cond.fieldLink RX4 24 "SwitchFloor$Wiring" "spotOfHouse" "[I", Cond.fieldLink RX4 34 "SwitchFloor$Wiring" "houses" "I", Cond.methodLink RX5 124 yX3_openForHouse, Cond.instanceMethod yX3_openForHouse, Cond.selects RX3 yX3_openForHouse yX3_openForHouse, Cond.initialized RX3, Cond.code yX3_openForHouse cX3_openForHouse 2 none, Cond.fieldLink RX3 27 "SwitchFloor$Tree" "open" "[Z", Cond.fieldLink RX3 55 "SwitchFloor$Tree" "wiring" "LSwitchFloor$Wiring;", Cond.fieldLink RX3 72 "SwitchFloor$Wiring" "house" "[I", Cond.methodLink RX3 68 yX3_isShut, Cond.instanceMethod yX3_isShut, Cond.selects RX3 yX3_isShut yX3_isShut, Cond.code yX3_isShut cX3_isShut 2 (some .boolean), Cond.fieldLink RX3 24 "SwitchFloor$Tree" "shutTill" "[I"]
def wsX5_house : List Cond := .code yX5_house cX5_house 5 (some .int) :: ((wsX5_house_r1 ++ wsX5_house_r2) ++ wsX50 ++ wsX40 ++ wsX30 ++ (vx_atS RX5 90 "java/lang/IllegalStateException" ["java/lang/RuntimeException", "java/lang/Exception"]).filter goodWord ++ (vx_atS RX5 255 "java/lang/IndexOutOfBoundsException" ["java/lang/RuntimeException", "java/lang/Exception"]).filter goodWord)
def wsX5_rank : List Cond := .code yX5_rank cX5_rank 4 (some .int) :: ([.fieldLink RX5 12 "SwitchFloor" "wiring" "LSwitchFloor$Wiring;", .fieldLink RX5 133 "SwitchFloor$Wiring" "rank" "[I", .methodLink RX5 130 yX5_needSwitch, .static yX5_needSwitch, .initialized RX5, .code yX5_needSwitch cX5_needSwitch 1 none, .classLink RX5 251 "java/lang/IndexOutOfBoundsException", .initialized "java/lang/IndexOutOfBoundsException", .methodLink RX5 74 yX5_needWithin, .static yX5_needWithin, .code yX5_needWithin cX5_needWithin 3 none, .classLink RX5 67 "java/lang/IllegalArgumentException", .initialized "java/lang/IllegalArgumentException"] ++ wsX50 ++ wsX40 ++ (vx_atS RX5 255 "java/lang/IndexOutOfBoundsException" ["java/lang/RuntimeException", "java/lang/Exception"]).filter goodWord ++ (vx_atS RX5 71 "java/lang/IllegalArgumentException" ["java/lang/RuntimeException", "java/lang/Exception"]).filter goodWord)
def wsX5_shutUntil_r1 : List Cond := [Cond.fieldLink RX5 21 "SwitchFloor" "tree" "LSwitchFloor$Tree;", Cond.fieldLink RX5 38 "SwitchFloor" "tables" "LSwitchFloor$Tables;", Cond.methodLink RX5 270 yX3_beginShut, Cond.instanceMethod yX3_beginShut, Cond.selects RX3 yX3_beginShut yX3_beginShut, Cond.initialized RX3, Cond.code yX3_beginShut cX3_beginShut 3 none, Cond.fieldLink RX3 24 "SwitchFloor$Tree" "shutTill" "[I", Cond.methodLink RX3 75 yX3_close, Cond.instanceMethod yX3_close, Cond.selects RX3 yX3_close yX3_close, Cond.code yX3_close cX3_close 2 none, Cond.fieldLink RX3 27 "SwitchFloor$Tree" "open" "[Z", Cond.fieldLink RX3 31 "SwitchFloor$Tree" "role" "[I", Cond.fieldLink RX3 34 "SwitchFloor$Tree" "waited" "[I", Cond.methodLink RX5 267 yX2_forgetPort, Cond.instanceMethod yX2_forgetPort, Cond.selects RX2 yX2_forgetPort yX2_forgetPort, Cond.initialized RX2, Cond.code yX2_forgetPort cX2_forgetPort 4 none, Cond.fieldLink RX2 11 "SwitchFloor$Tables" "heardBy" "[I", Cond.methodLink RX2 25 yX2_drop, Cond.instanceMethod yX2_drop, Cond.selects RX2 yX2_drop yX2_drop]
def wsX5_shutUntil_r2 : List Cond := [Cond.code yX2_drop cX2_drop 2 none, Cond.fieldLink RX2 18 "SwitchFloor$Tables" "entries" "[I"]
def wsX5_shutUntil : List Cond := .code yX5_shutUntil cX5_shutUntil 3 none :: ((wsX5_shutUntil_r1 ++ wsX5_shutUntil_r2) ++ wsX50 ++ wsX30 ++ wsX20)
def wsX5_shut_r1 : List Cond := [Cond.fieldLink RX5 21 "SwitchFloor" "tree" "LSwitchFloor$Tree;", Cond.methodLink RX5 63 yX5_needPort, Cond.static yX5_needPort, Cond.initialized RX5, Cond.code yX5_needPort cX5_needPort 2 none, Cond.classLink RX5 251 "java/lang/IndexOutOfBoundsException", Cond.initialized "java/lang/IndexOutOfBoundsException", Cond.methodLink RX5 130 yX5_needSwitch, Cond.static yX5_needSwitch, Cond.code yX5_needSwitch cX5_needSwitch 1 none, Cond.methodLink RX5 78 yX5_spotOf, Cond.static yX5_spotOf, Cond.code yX5_spotOf cX5_spotOf 2 (some .int), Cond.methodLink RX5 136 yX3_isShut, Cond.instanceMethod yX3_isShut, Cond.selects RX3 yX3_isShut yX3_isShut, Cond.initialized RX3, Cond.code yX3_isShut cX3_isShut 2 (some .boolean), Cond.fieldLink RX3 24 "SwitchFloor$Tree" "shutTill" "[I", Cond.methodLink RX5 139 yX3_endShut, Cond.instanceMethod yX3_endShut, Cond.selects RX3 yX3_endShut yX3_endShut, Cond.code yX3_endShut cX3_endShut 2 none, Cond.methodLink RX3 79 yX3_openForHouse]
def wsX5_shut_r2 : List Cond := [Cond.instanceMethod yX3_openForHouse, Cond.selects RX3 yX3_openForHouse yX3_openForHouse, Cond.code yX3_openForHouse cX3_openForHouse 2 none, Cond.fieldLink RX3 27 "SwitchFloor$Tree" "open" "[Z", Cond.fieldLink RX3 55 "SwitchFloor$Tree" "wiring" "LSwitchFloor$Wiring;", Cond.fieldLink RX3 72 "SwitchFloor$Wiring" "house" "[I", Cond.methodLink RX3 68 yX3_isShut, Cond.methodLink RX5 142 yX5_shutUntil, Cond.instanceMethod yX5_shutUntil, Cond.selects RX5 yX5_shutUntil yX5_shutUntil, Cond.code yX5_shutUntil cX5_shutUntil 3 none, Cond.fieldLink RX5 38 "SwitchFloor" "tables" "LSwitchFloor$Tables;", Cond.methodLink RX5 270 yX3_beginShut, Cond.instanceMethod yX3_beginShut, Cond.selects RX3 yX3_beginShut yX3_beginShut, Cond.code yX3_beginShut cX3_beginShut 3 none, Cond.methodLink RX3 75 yX3_close, Cond.instanceMethod yX3_close, Cond.selects RX3 yX3_close yX3_close, Cond.code yX3_close cX3_close 2 none, Cond.fieldLink RX3 31 "SwitchFloor$Tree" "role" "[I", Cond.fieldLink RX3 34 "SwitchFloor$Tree" "waited" "[I", Cond.methodLink RX5 267 yX2_forgetPort, Cond.instanceMethod yX2_forgetPort]
def wsX5_shut_r3 : List Cond := [Cond.selects RX2 yX2_forgetPort yX2_forgetPort, Cond.initialized RX2, Cond.code yX2_forgetPort cX2_forgetPort 4 none, Cond.fieldLink RX2 11 "SwitchFloor$Tables" "heardBy" "[I", Cond.methodLink RX2 25 yX2_drop, Cond.instanceMethod yX2_drop, Cond.selects RX2 yX2_drop yX2_drop, Cond.code yX2_drop cX2_drop 2 none, Cond.fieldLink RX2 18 "SwitchFloor$Tables" "entries" "[I"]
def wsX5_shut : List Cond := .code yX5_shut cX5_shut 4 (some .boolean) :: ((wsX5_shut_r1 ++ (wsX5_shut_r2 ++ wsX5_shut_r3)) ++ wsX50 ++ wsX30 ++ wsX40 ++ wsX20 ++ (vx_atS RX5 255 "java/lang/IndexOutOfBoundsException" ["java/lang/RuntimeException", "java/lang/Exception"]).filter goodWord)
def wsX5_guard : List Cond := .code yX5_guard cX5_guard 6 (some .int) :: ([.fieldLink RX5 12 "SwitchFloor" "wiring" "LSwitchFloor$Wiring;", .fieldLink RX5 145 "SwitchFloor$Wiring" "guard" "[I", .methodLink RX5 63 yX5_needPort, .static yX5_needPort, .initialized RX5, .code yX5_needPort cX5_needPort 2 none, .classLink RX5 251 "java/lang/IndexOutOfBoundsException", .initialized "java/lang/IndexOutOfBoundsException", .methodLink RX5 130 yX5_needSwitch, .static yX5_needSwitch, .code yX5_needSwitch cX5_needSwitch 1 none, .methodLink RX5 74 yX5_needWithin, .static yX5_needWithin, .code yX5_needWithin cX5_needWithin 3 none, .classLink RX5 67 "java/lang/IllegalArgumentException", .initialized "java/lang/IllegalArgumentException", .methodLink RX5 78 yX5_spotOf, .static yX5_spotOf, .code yX5_spotOf cX5_spotOf 2 (some .int)] ++ wsX50 ++ wsX40 ++ (vx_atS RX5 255 "java/lang/IndexOutOfBoundsException" ["java/lang/RuntimeException", "java/lang/Exception"]).filter goodWord ++ (vx_atS RX5 71 "java/lang/IllegalArgumentException" ["java/lang/RuntimeException", "java/lang/Exception"]).filter goodWord)
def wsX5_needLane : List Cond := .code yX5_needLane cX5_needLane 1 none :: ([.classLink RX5 251 "java/lang/IndexOutOfBoundsException", .initialized "java/lang/IndexOutOfBoundsException"] ++ (vx_atS RX5 255 "java/lang/IndexOutOfBoundsException" ["java/lang/RuntimeException", "java/lang/Exception"]).filter goodWord)
def wsX5_plain_r1 : List Cond := [Cond.fieldLink RX5 31 "SwitchFloor" "lanes" "LSwitchFloor$Lanes;", Cond.methodLink RX5 63 yX5_needPort, Cond.static yX5_needPort, Cond.initialized RX5, Cond.code yX5_needPort cX5_needPort 2 none, Cond.classLink RX5 251 "java/lang/IndexOutOfBoundsException", Cond.initialized "java/lang/IndexOutOfBoundsException", Cond.methodLink RX5 130 yX5_needSwitch, Cond.static yX5_needSwitch, Cond.code yX5_needSwitch cX5_needSwitch 1 none, Cond.methodLink RX5 148 yX5_needLane, Cond.static yX5_needLane, Cond.code yX5_needLane cX5_needLane 1 none, Cond.methodLink RX5 78 yX5_spotOf, Cond.static yX5_spotOf, Cond.code yX5_spotOf cX5_spotOf 2 (some .int), Cond.methodLink RX5 151 yX0_bitOf, Cond.static yX0_bitOf, Cond.initialized RX0, Cond.code yX0_bitOf cX0_bitOf 1 (some .int), Cond.methodLink RX5 154 yX0_setUp, Cond.instanceMethod yX0_setUp, Cond.selects RX0 yX0_setUp yX0_setUp, Cond.code yX0_setUp cX0_setUp 4 none]
def wsX5_plain_r2 : List Cond := [Cond.fieldLink RX0 9 "SwitchFloor$Lanes" "carried" "[I", Cond.fieldLink RX0 15 "SwitchFloor$Lanes" "untagged" "[I"]
def wsX5_plain : List Cond := .code yX5_plain cX5_plain 4 none :: ((wsX5_plain_r1 ++ wsX5_plain_r2) ++ wsX50 ++ wsX00 ++ (vx_atS RX5 255 "java/lang/IndexOutOfBoundsException" ["java/lang/RuntimeException", "java/lang/Exception"]).filter goodWord)
def wsX5_trunk_r1 : List Cond := [Cond.fieldLink RX5 31 "SwitchFloor" "lanes" "LSwitchFloor$Lanes;", Cond.methodLink RX5 63 yX5_needPort, Cond.static yX5_needPort, Cond.initialized RX5, Cond.code yX5_needPort cX5_needPort 2 none, Cond.classLink RX5 251 "java/lang/IndexOutOfBoundsException", Cond.initialized "java/lang/IndexOutOfBoundsException", Cond.methodLink RX5 130 yX5_needSwitch, Cond.static yX5_needSwitch, Cond.code yX5_needSwitch cX5_needSwitch 1 none, Cond.methodLink RX5 148 yX5_needLane, Cond.static yX5_needLane, Cond.code yX5_needLane cX5_needLane 1 none, Cond.methodLink RX5 74 yX5_needWithin, Cond.static yX5_needWithin, Cond.code yX5_needWithin cX5_needWithin 3 none, Cond.classLink RX5 67 "java/lang/IllegalArgumentException", Cond.initialized "java/lang/IllegalArgumentException", Cond.methodLink RX5 78 yX5_spotOf, Cond.static yX5_spotOf, Cond.code yX5_spotOf cX5_spotOf 2 (some .int), Cond.methodLink RX5 154 yX0_setUp, Cond.instanceMethod yX0_setUp, Cond.selects RX0 yX0_setUp yX0_setUp]
def wsX5_trunk_r2 : List Cond := [Cond.initialized RX0, Cond.code yX0_setUp cX0_setUp 4 none, Cond.fieldLink RX0 9 "SwitchFloor$Lanes" "carried" "[I", Cond.fieldLink RX0 15 "SwitchFloor$Lanes" "untagged" "[I"]
def wsX5_trunk : List Cond := .code yX5_trunk cX5_trunk 5 none :: ((wsX5_trunk_r1 ++ wsX5_trunk_r2) ++ wsX50 ++ wsX00 ++ (vx_atS RX5 255 "java/lang/IndexOutOfBoundsException" ["java/lang/RuntimeException", "java/lang/Exception"]).filter goodWord ++ (vx_atS RX5 71 "java/lang/IllegalArgumentException" ["java/lang/RuntimeException", "java/lang/Exception"]).filter goodWord)
def wsX5_limit : List Cond := .code yX5_limit cX5_limit 3 (some .int) :: ([.fieldLink RX5 59 "SwitchFloor" "floodLimit" "I", .methodLink RX5 74 yX5_needWithin, .static yX5_needWithin, .initialized RX5, .code yX5_needWithin cX5_needWithin 3 none, .classLink RX5 67 "java/lang/IllegalArgumentException", .initialized "java/lang/IllegalArgumentException"] ++ wsX50 ++ (vx_atS RX5 71 "java/lang/IllegalArgumentException" ["java/lang/RuntimeException", "java/lang/Exception"]).filter goodWord)
def wsX5_passBeat_r1 : List Cond := [Cond.fieldLink RX5 21 "SwitchFloor" "tree" "LSwitchFloor$Tree;", Cond.fieldLink RX5 49 "SwitchFloor" "floods" "[I", Cond.fieldLink RX5 273 "SwitchFloor$Tree" "caught" "[Z", Cond.fieldLink RX5 38 "SwitchFloor" "tables" "LSwitchFloor$Tables;", Cond.fieldLink RX5 276 "SwitchFloor$Tree" "stale" "[Z", Cond.fieldLink RX5 160 "SwitchFloor$Tree" "beats" "I", Cond.methodLink RX5 214 yX3_pass, Cond.instanceMethod yX3_pass, Cond.selects RX3 yX3_pass yX3_pass, Cond.initialized RX3, Cond.code yX3_pass cX3_pass 2 none, Cond.fieldLink RX3 59 "SwitchFloor$Tree" "beats" "I", Cond.fieldLink RX3 49 "SwitchFloor$Tree" "stale" "[Z", Cond.methodLink RX3 82 yX3_tell, Cond.instanceMethod yX3_tell, Cond.selects RX3 yX3_tell yX3_tell, Cond.code yX3_tell cX3_tell 3 none, Cond.fieldLink RX3 37 "SwitchFloor$Tree" "toldRoot" "[I", Cond.fieldLink RX3 55 "SwitchFloor$Tree" "wiring" "LSwitchFloor$Wiring;", Cond.fieldLink RX3 63 "SwitchFloor$Wiring" "peer" "[I", Cond.fieldLink RX3 9 "SwitchFloor$Tree" "root" "[I", Cond.fieldLink RX3 40 "SwitchFloor$Tree" "toldCost" "[I", Cond.fieldLink RX3 15 "SwitchFloor$Tree" "cost" "[I", Cond.fieldLink RX3 43 "SwitchFloor$Tree" "toldHops" "[I"]
def wsX5_passBeat_r2 : List Cond := [Cond.fieldLink RX3 18 "SwitchFloor$Tree" "hops" "[I", Cond.methodLink RX3 100 yX3_isJoined, Cond.instanceMethod yX3_isJoined, Cond.selects RX3 yX3_isJoined yX3_isJoined, Cond.code yX3_isJoined cX3_isJoined 3 (some .boolean), Cond.methodLink RX3 68 yX3_isShut, Cond.instanceMethod yX3_isShut, Cond.selects RX3 yX3_isShut yX3_isShut, Cond.code yX3_isShut cX3_isShut 2 (some .boolean), Cond.fieldLink RX3 24 "SwitchFloor$Tree" "shutTill" "[I", Cond.methodLink RX3 85 yX3_guardForHouses, Cond.instanceMethod yX3_guardForHouses, Cond.selects RX3 yX3_guardForHouses yX3_guardForHouses, Cond.code yX3_guardForHouses cX3_guardForHouses 2 none, Cond.fieldLink RX3 46 "SwitchFloor$Tree" "caught" "[Z", Cond.fieldLink RX3 103 "SwitchFloor$Wiring" "guard" "[I", Cond.methodLink RX3 106 yX3_beginShut, Cond.instanceMethod yX3_beginShut, Cond.selects RX3 yX3_beginShut yX3_beginShut, Cond.code yX3_beginShut cX3_beginShut 3 none, Cond.methodLink RX3 75 yX3_close, Cond.instanceMethod yX3_close, Cond.selects RX3 yX3_close yX3_close, Cond.code yX3_close cX3_close 2 none]
def wsX5_passBeat_r3 : List Cond := [Cond.fieldLink RX3 27 "SwitchFloor$Tree" "open" "[Z", Cond.fieldLink RX3 31 "SwitchFloor$Tree" "role" "[I", Cond.fieldLink RX3 34 "SwitchFloor$Tree" "waited" "[I", Cond.methodLink RX3 88 yX3_takeBest, Cond.instanceMethod yX3_takeBest, Cond.selects RX3 yX3_takeBest yX3_takeBest, Cond.code yX3_takeBest cX3_takeBest 5 none, Cond.fieldLink RX3 21 "SwitchFloor$Tree" "rootPort" "[I", Cond.static yX5_spotOf, Cond.initialized RX5, Cond.code yX5_spotOf cX5_spotOf 2 (some .int), Cond.methodLink RX3 114 yX3_offer, Cond.instanceMethod yX3_offer, Cond.selects RX3 yX3_offer yX3_offer, Cond.code yX3_offer cX3_offer 3 none, Cond.fieldLink RX3 124 "SwitchFloor$Wiring" "cost" "[I", Cond.methodLink RX3 121 yX3_isBetterThanHeld, Cond.instanceMethod yX3_isBetterThanHeld, Cond.selects RX3 yX3_isBetterThanHeld yX3_isBetterThanHeld, Cond.code yX3_isBetterThanHeld cX3_isBetterThanHeld 6 (some .boolean), Cond.methodLink RX3 117 yX4_isBetterName, Cond.instanceMethod yX4_isBetterName, Cond.selects RX4 yX4_isBetterName yX4_isBetterName, Cond.initialized RX4]
def wsX5_passBeat_r4 : List Cond := [Cond.code yX4_isBetterName cX4_isBetterName 3 (some .boolean), Cond.fieldLink RX4 27 "SwitchFloor$Wiring" "rank" "[I", Cond.methodLink RX3 91 yX3_turn, Cond.instanceMethod yX3_turn, Cond.selects RX3 yX3_turn yX3_turn, Cond.code yX3_turn cX3_turn 2 none, Cond.methodLink RX3 125 yX3_roleOf, Cond.instanceMethod yX3_roleOf, Cond.selects RX3 yX3_roleOf yX3_roleOf, Cond.code yX3_roleOf cX3_roleOf 2 (some .int), Cond.methodLink RX3 133 yX3_isHeldBetter, Cond.instanceMethod yX3_isHeldBetter, Cond.selects RX3 yX3_isHeldBetter yX3_isHeldBetter, Cond.code yX3_isHeldBetter cX3_isHeldBetter 3 (some .boolean), Cond.methodLink RX3 129 yX3_turnTo, Cond.instanceMethod yX3_turnTo, Cond.selects RX3 yX3_turnTo yX3_turnTo, Cond.code yX3_turnTo cX3_turnTo 3 none, Cond.methodLink RX3 94 yX3_spreadStale, Cond.instanceMethod yX3_spreadStale, Cond.selects RX3 yX3_spreadStale yX3_spreadStale, Cond.code yX3_spreadStale cX3_spreadStale 3 none, Cond.methodLink RX3 97 yX3_endStorms, Cond.instanceMethod yX3_endStorms]
def wsX5_passBeat_r5 : List Cond := [Cond.selects RX3 yX3_endStorms yX3_endStorms, Cond.code yX3_endStorms cX3_endStorms 2 none, Cond.methodLink RX3 136 yX3_endShut, Cond.instanceMethod yX3_endShut, Cond.selects RX3 yX3_endShut yX3_endShut, Cond.code yX3_endShut cX3_endShut 2 none, Cond.methodLink RX3 79 yX3_openForHouse, Cond.instanceMethod yX3_openForHouse, Cond.selects RX3 yX3_openForHouse yX3_openForHouse, Cond.code yX3_openForHouse cX3_openForHouse 2 none, Cond.fieldLink RX3 72 "SwitchFloor$Wiring" "house" "[I", Cond.methodLink RX5 267 yX2_forgetPort, Cond.instanceMethod yX2_forgetPort, Cond.selects RX2 yX2_forgetPort yX2_forgetPort, Cond.initialized RX2, Cond.code yX2_forgetPort cX2_forgetPort 4 none, Cond.fieldLink RX2 11 "SwitchFloor$Tables" "heardBy" "[I", Cond.methodLink RX2 25 yX2_drop, Cond.instanceMethod yX2_drop, Cond.selects RX2 yX2_drop yX2_drop, Cond.code yX2_drop cX2_drop 2 none, Cond.fieldLink RX2 18 "SwitchFloor$Tables" "entries" "[I", Cond.methodLink RX5 279 yX2_empty, Cond.instanceMethod yX2_empty]
def wsX5_passBeat_r6 : List Cond := [Cond.selects RX2 yX2_empty yX2_empty, Cond.code yX2_empty cX2_empty 4 none, Cond.methodLink RX5 282 yX2_dropOld, Cond.instanceMethod yX2_dropOld, Cond.selects RX2 yX2_dropOld yX2_dropOld, Cond.code yX2_dropOld cX2_dropOld 3 none, Cond.fieldLink RX2 15 "SwitchFloor$Tables" "heardAt" "[I"]
def wsX5_passBeat : List Cond := .code yX5_passBeat cX5_passBeat 2 none :: ((wsX5_passBeat_r1 ++ (wsX5_passBeat_r2 ++ (wsX5_passBeat_r3 ++ (wsX5_passBeat_r4 ++ (wsX5_passBeat_r5 ++ wsX5_passBeat_r6))))) ++ wsX50 ++ wsX30 ++ wsX40 ++ wsX20)
def wsX5_beat_r1 : List Cond := [Cond.fieldLink RX5 21 "SwitchFloor" "tree" "LSwitchFloor$Tree;", Cond.fieldLink RX5 160 "SwitchFloor$Tree" "beats" "I", Cond.methodLink RX5 74 yX5_needWithin, Cond.static yX5_needWithin, Cond.initialized RX5, Cond.code yX5_needWithin cX5_needWithin 3 none, Cond.classLink RX5 67 "java/lang/IllegalArgumentException", Cond.initialized "java/lang/IllegalArgumentException", Cond.methodLink RX5 157 yX5_passBeat, Cond.instanceMethod yX5_passBeat, Cond.selects RX5 yX5_passBeat yX5_passBeat, Cond.code yX5_passBeat cX5_passBeat 2 none, Cond.fieldLink RX5 49 "SwitchFloor" "floods" "[I", Cond.fieldLink RX5 273 "SwitchFloor$Tree" "caught" "[Z", Cond.fieldLink RX5 38 "SwitchFloor" "tables" "LSwitchFloor$Tables;", Cond.fieldLink RX5 276 "SwitchFloor$Tree" "stale" "[Z", Cond.methodLink RX5 214 yX3_pass, Cond.instanceMethod yX3_pass, Cond.selects RX3 yX3_pass yX3_pass, Cond.initialized RX3, Cond.code yX3_pass cX3_pass 2 none, Cond.fieldLink RX3 59 "SwitchFloor$Tree" "beats" "I", Cond.fieldLink RX3 49 "SwitchFloor$Tree" "stale" "[Z", Cond.methodLink RX3 82 yX3_tell]
def wsX5_beat_r2 : List Cond := [Cond.instanceMethod yX3_tell, Cond.selects RX3 yX3_tell yX3_tell, Cond.code yX3_tell cX3_tell 3 none, Cond.fieldLink RX3 37 "SwitchFloor$Tree" "toldRoot" "[I", Cond.fieldLink RX3 55 "SwitchFloor$Tree" "wiring" "LSwitchFloor$Wiring;", Cond.fieldLink RX3 63 "SwitchFloor$Wiring" "peer" "[I", Cond.fieldLink RX3 9 "SwitchFloor$Tree" "root" "[I", Cond.fieldLink RX3 40 "SwitchFloor$Tree" "toldCost" "[I", Cond.fieldLink RX3 15 "SwitchFloor$Tree" "cost" "[I", Cond.fieldLink RX3 43 "SwitchFloor$Tree" "toldHops" "[I", Cond.fieldLink RX3 18 "SwitchFloor$Tree" "hops" "[I", Cond.methodLink RX3 100 yX3_isJoined, Cond.instanceMethod yX3_isJoined, Cond.selects RX3 yX3_isJoined yX3_isJoined, Cond.code yX3_isJoined cX3_isJoined 3 (some .boolean), Cond.methodLink RX3 68 yX3_isShut, Cond.instanceMethod yX3_isShut, Cond.selects RX3 yX3_isShut yX3_isShut, Cond.code yX3_isShut cX3_isShut 2 (some .boolean), Cond.fieldLink RX3 24 "SwitchFloor$Tree" "shutTill" "[I", Cond.methodLink RX3 85 yX3_guardForHouses, Cond.instanceMethod yX3_guardForHouses, Cond.selects RX3 yX3_guardForHouses yX3_guardForHouses, Cond.code yX3_guardForHouses cX3_guardForHouses 2 none]
def wsX5_beat_r3 : List Cond := [Cond.fieldLink RX3 46 "SwitchFloor$Tree" "caught" "[Z", Cond.fieldLink RX3 103 "SwitchFloor$Wiring" "guard" "[I", Cond.methodLink RX3 106 yX3_beginShut, Cond.instanceMethod yX3_beginShut, Cond.selects RX3 yX3_beginShut yX3_beginShut, Cond.code yX3_beginShut cX3_beginShut 3 none, Cond.methodLink RX3 75 yX3_close, Cond.instanceMethod yX3_close, Cond.selects RX3 yX3_close yX3_close, Cond.code yX3_close cX3_close 2 none, Cond.fieldLink RX3 27 "SwitchFloor$Tree" "open" "[Z", Cond.fieldLink RX3 31 "SwitchFloor$Tree" "role" "[I", Cond.fieldLink RX3 34 "SwitchFloor$Tree" "waited" "[I", Cond.methodLink RX3 88 yX3_takeBest, Cond.instanceMethod yX3_takeBest, Cond.selects RX3 yX3_takeBest yX3_takeBest, Cond.code yX3_takeBest cX3_takeBest 5 none, Cond.fieldLink RX3 21 "SwitchFloor$Tree" "rootPort" "[I", Cond.static yX5_spotOf, Cond.code yX5_spotOf cX5_spotOf 2 (some .int), Cond.methodLink RX3 114 yX3_offer, Cond.instanceMethod yX3_offer, Cond.selects RX3 yX3_offer yX3_offer, Cond.code yX3_offer cX3_offer 3 none]
def wsX5_beat_r4 : List Cond := [Cond.fieldLink RX3 124 "SwitchFloor$Wiring" "cost" "[I", Cond.methodLink RX3 121 yX3_isBetterThanHeld, Cond.instanceMethod yX3_isBetterThanHeld, Cond.selects RX3 yX3_isBetterThanHeld yX3_isBetterThanHeld, Cond.code yX3_isBetterThanHeld cX3_isBetterThanHeld 6 (some .boolean), Cond.methodLink RX3 117 yX4_isBetterName, Cond.instanceMethod yX4_isBetterName, Cond.selects RX4 yX4_isBetterName yX4_isBetterName, Cond.initialized RX4, Cond.code yX4_isBetterName cX4_isBetterName 3 (some .boolean), Cond.fieldLink RX4 27 "SwitchFloor$Wiring" "rank" "[I", Cond.methodLink RX3 91 yX3_turn, Cond.instanceMethod yX3_turn, Cond.selects RX3 yX3_turn yX3_turn, Cond.code yX3_turn cX3_turn 2 none, Cond.methodLink RX3 125 yX3_roleOf, Cond.instanceMethod yX3_roleOf, Cond.selects RX3 yX3_roleOf yX3_roleOf, Cond.code yX3_roleOf cX3_roleOf 2 (some .int), Cond.methodLink RX3 133 yX3_isHeldBetter, Cond.instanceMethod yX3_isHeldBetter, Cond.selects RX3 yX3_isHeldBetter yX3_isHeldBetter, Cond.code yX3_isHeldBetter cX3_isHeldBetter 3 (some .boolean), Cond.methodLink RX3 129 yX3_turnTo]
def wsX5_beat_r5 : List Cond := [Cond.instanceMethod yX3_turnTo, Cond.selects RX3 yX3_turnTo yX3_turnTo, Cond.code yX3_turnTo cX3_turnTo 3 none, Cond.methodLink RX3 94 yX3_spreadStale, Cond.instanceMethod yX3_spreadStale, Cond.selects RX3 yX3_spreadStale yX3_spreadStale, Cond.code yX3_spreadStale cX3_spreadStale 3 none, Cond.methodLink RX3 97 yX3_endStorms, Cond.instanceMethod yX3_endStorms, Cond.selects RX3 yX3_endStorms yX3_endStorms, Cond.code yX3_endStorms cX3_endStorms 2 none, Cond.methodLink RX3 136 yX3_endShut, Cond.instanceMethod yX3_endShut, Cond.selects RX3 yX3_endShut yX3_endShut, Cond.code yX3_endShut cX3_endShut 2 none, Cond.methodLink RX3 79 yX3_openForHouse, Cond.instanceMethod yX3_openForHouse, Cond.selects RX3 yX3_openForHouse yX3_openForHouse, Cond.code yX3_openForHouse cX3_openForHouse 2 none, Cond.fieldLink RX3 72 "SwitchFloor$Wiring" "house" "[I", Cond.methodLink RX5 267 yX2_forgetPort, Cond.instanceMethod yX2_forgetPort, Cond.selects RX2 yX2_forgetPort yX2_forgetPort, Cond.initialized RX2]
def wsX5_beat_r6 : List Cond := [Cond.code yX2_forgetPort cX2_forgetPort 4 none, Cond.fieldLink RX2 11 "SwitchFloor$Tables" "heardBy" "[I", Cond.methodLink RX2 25 yX2_drop, Cond.instanceMethod yX2_drop, Cond.selects RX2 yX2_drop yX2_drop, Cond.code yX2_drop cX2_drop 2 none, Cond.fieldLink RX2 18 "SwitchFloor$Tables" "entries" "[I", Cond.methodLink RX5 279 yX2_empty, Cond.instanceMethod yX2_empty, Cond.selects RX2 yX2_empty yX2_empty, Cond.code yX2_empty cX2_empty 4 none, Cond.methodLink RX5 282 yX2_dropOld, Cond.instanceMethod yX2_dropOld, Cond.selects RX2 yX2_dropOld yX2_dropOld, Cond.code yX2_dropOld cX2_dropOld 3 none, Cond.fieldLink RX2 15 "SwitchFloor$Tables" "heardAt" "[I"]
def wsX5_beat : List Cond := .code yX5_beat cX5_beat 3 (some .int) :: ((wsX5_beat_r1 ++ (wsX5_beat_r2 ++ (wsX5_beat_r3 ++ (wsX5_beat_r4 ++ (wsX5_beat_r5 ++ wsX5_beat_r6))))) ++ wsX50 ++ wsX30 ++ wsX40 ++ wsX20 ++ (vx_atS RX5 71 "java/lang/IllegalArgumentException" ["java/lang/RuntimeException", "java/lang/Exception"]).filter goodWord)
def wsX5_laneLetIn : List Cond := .code yX5_laneLetIn cX5_laneLetIn 3 (some .int) :: ([.fieldLink RX5 21 "SwitchFloor" "tree" "LSwitchFloor$Tree;", .fieldLink RX5 198 "SwitchFloor$Tree" "open" "[Z", .fieldLink RX5 31 "SwitchFloor" "lanes" "LSwitchFloor$Lanes;", .methodLink RX5 285 yX0_laneIn, .instanceMethod yX0_laneIn, .selects RX0 yX0_laneIn yX0_laneIn, .initialized RX0, .code yX0_laneIn cX0_laneIn 4 (some .int), .fieldLink RX0 15 "SwitchFloor$Lanes" "untagged" "[I", .methodLink RX0 22 yX0_carries, .instanceMethod yX0_carries, .selects RX0 yX0_carries yX0_carries, .code yX0_carries cX0_carries 3 (some .boolean), .fieldLink RX0 9 "SwitchFloor$Lanes" "carried" "[I", .methodLink RX0 18 yX0_bitOf, .static yX0_bitOf, .code yX0_bitOf cX0_bitOf 1 (some .int)] ++ wsX50 ++ wsX30 ++ wsX00)
def wsX5_handOver : List Cond := .code yX5_handOver cX5_handOver 3 (some .int) :: ([.fieldLink RX5 53 "SwitchFloor" "gotFrames" "[I", .fieldLink RX5 56 "SwitchFloor" "overheardFrames" "[I"] ++ wsX50)
def wsX5_goOut_r1 : List Cond := [Cond.fieldLink RX5 31 "SwitchFloor" "lanes" "LSwitchFloor$Lanes;", Cond.fieldLink RX5 12 "SwitchFloor" "wiring" "LSwitchFloor$Wiring;", Cond.fieldLink RX5 99 "SwitchFloor$Wiring" "peer" "[I", Cond.fieldLink RX5 245 "SwitchFloor$Wiring" "house" "[I", Cond.fieldLink RX5 45 "SwitchFloor" "steps" "LSwitchFloor$Steps;", Cond.fieldLink RX5 310 "SwitchFloor$Steps" "hops" "[I", Cond.fieldLink RX5 311 "SwitchFloor$Steps" "second" "[I", Cond.methodLink RX5 288 yX0_carries, Cond.instanceMethod yX0_carries, Cond.selects RX0 yX0_carries yX0_carries, Cond.initialized RX0, Cond.code yX0_carries cX0_carries 3 (some .boolean), Cond.fieldLink RX0 9 "SwitchFloor$Lanes" "carried" "[I", Cond.methodLink RX0 18 yX0_bitOf, Cond.static yX0_bitOf, Cond.code yX0_bitOf cX0_bitOf 1 (some .int), Cond.methodLink RX5 307 yX5_handOver, Cond.instanceMethod yX5_handOver, Cond.selects RX5 yX5_handOver yX5_handOver, Cond.initialized RX5, Cond.code yX5_handOver cX5_handOver 3 (some .int), Cond.fieldLink RX5 53 "SwitchFloor" "gotFrames" "[I", Cond.fieldLink RX5 56 "SwitchFloor" "overheardFrames" "[I", Cond.methodLink RX5 248 yX0_tagOut]
def wsX5_goOut_r2 : List Cond := [Cond.instanceMethod yX0_tagOut, Cond.selects RX0 yX0_tagOut yX0_tagOut, Cond.code yX0_tagOut cX0_tagOut 3 (some .int), Cond.fieldLink RX0 15 "SwitchFloor$Lanes" "untagged" "[I", Cond.methodLink RX5 170 yX1_add, Cond.instanceMethod yX1_add, Cond.selects RX1 yX1_add yX1_add, Cond.initialized RX1, Cond.code yX1_add cX1_add 5 none, Cond.fieldLink RX1 24 "SwitchFloor$Steps" "size" "I", Cond.fieldLink RX1 9 "SwitchFloor$Steps" "spot" "[I", Cond.fieldLink RX1 15 "SwitchFloor$Steps" "tag" "[I", Cond.fieldLink RX1 18 "SwitchFloor$Steps" "second" "[I", Cond.fieldLink RX1 21 "SwitchFloor$Steps" "hops" "[I"]
def wsX5_goOut : List Cond := .code yX5_goOut cX5_goOut 9 (some .int) :: ((wsX5_goOut_r1 ++ wsX5_goOut_r2) ++ wsX50 ++ wsX40 ++ wsX10 ++ wsX00)
def wsX5_flood_r1 : List Cond := [Cond.fieldLink RX5 45 "SwitchFloor" "steps" "LSwitchFloor$Steps;", Cond.fieldLink RX5 291 "SwitchFloor$Steps" "spot" "[I", Cond.fieldLink RX5 49 "SwitchFloor" "floods" "[I", Cond.fieldLink RX5 59 "SwitchFloor" "floodLimit" "I", Cond.fieldLink RX5 21 "SwitchFloor" "tree" "LSwitchFloor$Tree;", Cond.fieldLink RX5 160 "SwitchFloor$Tree" "beats" "I", Cond.fieldLink RX5 198 "SwitchFloor$Tree" "open" "[Z", Cond.methodLink RX5 142 yX5_shutUntil, Cond.instanceMethod yX5_shutUntil, Cond.selects RX5 yX5_shutUntil yX5_shutUntil, Cond.initialized RX5, Cond.code yX5_shutUntil cX5_shutUntil 3 none, Cond.fieldLink RX5 38 "SwitchFloor" "tables" "LSwitchFloor$Tables;", Cond.methodLink RX5 270 yX3_beginShut, Cond.instanceMethod yX3_beginShut, Cond.selects RX3 yX3_beginShut yX3_beginShut, Cond.initialized RX3, Cond.code yX3_beginShut cX3_beginShut 3 none, Cond.fieldLink RX3 24 "SwitchFloor$Tree" "shutTill" "[I", Cond.methodLink RX3 75 yX3_close, Cond.instanceMethod yX3_close, Cond.selects RX3 yX3_close yX3_close, Cond.code yX3_close cX3_close 2 none, Cond.fieldLink RX3 27 "SwitchFloor$Tree" "open" "[Z"]
def wsX5_flood_r2 : List Cond := [Cond.fieldLink RX3 31 "SwitchFloor$Tree" "role" "[I", Cond.fieldLink RX3 34 "SwitchFloor$Tree" "waited" "[I", Cond.methodLink RX5 267 yX2_forgetPort, Cond.instanceMethod yX2_forgetPort, Cond.selects RX2 yX2_forgetPort yX2_forgetPort, Cond.initialized RX2, Cond.code yX2_forgetPort cX2_forgetPort 4 none, Cond.fieldLink RX2 11 "SwitchFloor$Tables" "heardBy" "[I", Cond.methodLink RX2 25 yX2_drop, Cond.instanceMethod yX2_drop, Cond.selects RX2 yX2_drop yX2_drop, Cond.code yX2_drop cX2_drop 2 none, Cond.fieldLink RX2 18 "SwitchFloor$Tables" "entries" "[I", Cond.methodLink RX5 303 yX5_goOut, Cond.instanceMethod yX5_goOut, Cond.selects RX5 yX5_goOut yX5_goOut, Cond.code yX5_goOut cX5_goOut 9 (some .int), Cond.fieldLink RX5 31 "SwitchFloor" "lanes" "LSwitchFloor$Lanes;", Cond.fieldLink RX5 12 "SwitchFloor" "wiring" "LSwitchFloor$Wiring;", Cond.fieldLink RX5 99 "SwitchFloor$Wiring" "peer" "[I", Cond.fieldLink RX5 245 "SwitchFloor$Wiring" "house" "[I", Cond.fieldLink RX5 310 "SwitchFloor$Steps" "hops" "[I", Cond.fieldLink RX5 311 "SwitchFloor$Steps" "second" "[I", Cond.methodLink RX5 288 yX0_carries]
def wsX5_flood_r3 : List Cond := [Cond.instanceMethod yX0_carries, Cond.selects RX0 yX0_carries yX0_carries, Cond.initialized RX0, Cond.code yX0_carries cX0_carries 3 (some .boolean), Cond.fieldLink RX0 9 "SwitchFloor$Lanes" "carried" "[I", Cond.methodLink RX0 18 yX0_bitOf, Cond.static yX0_bitOf, Cond.code yX0_bitOf cX0_bitOf 1 (some .int), Cond.methodLink RX5 307 yX5_handOver, Cond.instanceMethod yX5_handOver, Cond.selects RX5 yX5_handOver yX5_handOver, Cond.code yX5_handOver cX5_handOver 3 (some .int), Cond.fieldLink RX5 53 "SwitchFloor" "gotFrames" "[I", Cond.fieldLink RX5 56 "SwitchFloor" "overheardFrames" "[I", Cond.methodLink RX5 248 yX0_tagOut, Cond.instanceMethod yX0_tagOut, Cond.selects RX0 yX0_tagOut yX0_tagOut, Cond.code yX0_tagOut cX0_tagOut 3 (some .int), Cond.fieldLink RX0 15 "SwitchFloor$Lanes" "untagged" "[I", Cond.methodLink RX5 170 yX1_add, Cond.instanceMethod yX1_add, Cond.selects RX1 yX1_add yX1_add, Cond.initialized RX1, Cond.code yX1_add cX1_add 5 none]
def wsX5_flood_r4 : List Cond := [Cond.fieldLink RX1 24 "SwitchFloor$Steps" "size" "I", Cond.fieldLink RX1 9 "SwitchFloor$Steps" "spot" "[I", Cond.fieldLink RX1 15 "SwitchFloor$Steps" "tag" "[I", Cond.fieldLink RX1 18 "SwitchFloor$Steps" "second" "[I", Cond.fieldLink RX1 21 "SwitchFloor$Steps" "hops" "[I"]
def wsX5_flood : List Cond := .code yX5_flood cX5_flood 8 (some .int) :: ((wsX5_flood_r1 ++ (wsX5_flood_r2 ++ (wsX5_flood_r3 ++ wsX5_flood_r4))) ++ wsX50 ++ wsX10 ++ wsX30 ++ wsX20 ++ wsX40 ++ wsX00)
def wsX5_takeStep_r1 : List Cond := [Cond.fieldLink RX5 45 "SwitchFloor" "steps" "LSwitchFloor$Steps;", Cond.fieldLink RX5 291 "SwitchFloor$Steps" "spot" "[I", Cond.fieldLink RX5 294 "SwitchFloor$Steps" "tag" "[I", Cond.fieldLink RX5 38 "SwitchFloor" "tables" "LSwitchFloor$Tables;", Cond.fieldLink RX5 21 "SwitchFloor" "tree" "LSwitchFloor$Tree;", Cond.fieldLink RX5 160 "SwitchFloor$Tree" "beats" "I", Cond.fieldLink RX5 198 "SwitchFloor$Tree" "open" "[Z", Cond.methodLink RX5 239 yX5_laneLetIn, Cond.instanceMethod yX5_laneLetIn, Cond.selects RX5 yX5_laneLetIn yX5_laneLetIn, Cond.initialized RX5, Cond.code yX5_laneLetIn cX5_laneLetIn 3 (some .int), Cond.fieldLink RX5 31 "SwitchFloor" "lanes" "LSwitchFloor$Lanes;", Cond.methodLink RX5 285 yX0_laneIn, Cond.instanceMethod yX0_laneIn, Cond.selects RX0 yX0_laneIn yX0_laneIn, Cond.initialized RX0, Cond.code yX0_laneIn cX0_laneIn 4 (some .int), Cond.fieldLink RX0 15 "SwitchFloor$Lanes" "untagged" "[I", Cond.methodLink RX0 22 yX0_carries, Cond.instanceMethod yX0_carries, Cond.selects RX0 yX0_carries yX0_carries, Cond.code yX0_carries cX0_carries 3 (some .boolean), Cond.fieldLink RX0 9 "SwitchFloor$Lanes" "carried" "[I"]
def wsX5_takeStep_r2 : List Cond := [Cond.methodLink RX0 18 yX0_bitOf, Cond.static yX0_bitOf, Cond.code yX0_bitOf cX0_bitOf 1 (some .int), Cond.methodLink RX5 297 yX2_hear, Cond.instanceMethod yX2_hear, Cond.selects RX2 yX2_hear yX2_hear, Cond.initialized RX2, Cond.code yX2_hear cX2_hear 7 none, Cond.fieldLink RX2 11 "SwitchFloor$Tables" "heardBy" "[I", Cond.fieldLink RX2 18 "SwitchFloor$Tables" "entries" "[I", Cond.fieldLink RX2 15 "SwitchFloor$Tables" "heardAt" "[I", Cond.methodLink RX2 21 yX2_indexOf, Cond.static yX2_indexOf, Cond.code yX2_indexOf cX2_indexOf 3 (some .int), Cond.methodLink RX5 207 yX2_portFor, Cond.instanceMethod yX2_portFor, Cond.selects RX2 yX2_portFor yX2_portFor, Cond.code yX2_portFor cX2_portFor 4 (some .int), Cond.methodLink RX5 78 yX5_spotOf, Cond.static yX5_spotOf, Cond.code yX5_spotOf cX5_spotOf 2 (some .int), Cond.methodLink RX5 300 yX5_flood, Cond.instanceMethod yX5_flood, Cond.selects RX5 yX5_flood yX5_flood]
def wsX5_takeStep_r3 : List Cond := [Cond.code yX5_flood cX5_flood 8 (some .int), Cond.fieldLink RX5 49 "SwitchFloor" "floods" "[I", Cond.fieldLink RX5 59 "SwitchFloor" "floodLimit" "I", Cond.methodLink RX5 142 yX5_shutUntil, Cond.instanceMethod yX5_shutUntil, Cond.selects RX5 yX5_shutUntil yX5_shutUntil, Cond.code yX5_shutUntil cX5_shutUntil 3 none, Cond.methodLink RX5 270 yX3_beginShut, Cond.instanceMethod yX3_beginShut, Cond.selects RX3 yX3_beginShut yX3_beginShut, Cond.initialized RX3, Cond.code yX3_beginShut cX3_beginShut 3 none, Cond.fieldLink RX3 24 "SwitchFloor$Tree" "shutTill" "[I", Cond.methodLink RX3 75 yX3_close, Cond.instanceMethod yX3_close, Cond.selects RX3 yX3_close yX3_close, Cond.code yX3_close cX3_close 2 none, Cond.fieldLink RX3 27 "SwitchFloor$Tree" "open" "[Z", Cond.fieldLink RX3 31 "SwitchFloor$Tree" "role" "[I", Cond.fieldLink RX3 34 "SwitchFloor$Tree" "waited" "[I", Cond.methodLink RX5 267 yX2_forgetPort, Cond.instanceMethod yX2_forgetPort, Cond.selects RX2 yX2_forgetPort yX2_forgetPort, Cond.code yX2_forgetPort cX2_forgetPort 4 none]
def wsX5_takeStep_r4 : List Cond := [Cond.methodLink RX2 25 yX2_drop, Cond.instanceMethod yX2_drop, Cond.selects RX2 yX2_drop yX2_drop, Cond.code yX2_drop cX2_drop 2 none, Cond.methodLink RX5 303 yX5_goOut, Cond.instanceMethod yX5_goOut, Cond.selects RX5 yX5_goOut yX5_goOut, Cond.code yX5_goOut cX5_goOut 9 (some .int), Cond.fieldLink RX5 12 "SwitchFloor" "wiring" "LSwitchFloor$Wiring;", Cond.fieldLink RX5 99 "SwitchFloor$Wiring" "peer" "[I", Cond.fieldLink RX5 245 "SwitchFloor$Wiring" "house" "[I", Cond.fieldLink RX5 310 "SwitchFloor$Steps" "hops" "[I", Cond.fieldLink RX5 311 "SwitchFloor$Steps" "second" "[I", Cond.methodLink RX5 288 yX0_carries, Cond.methodLink RX5 307 yX5_handOver, Cond.instanceMethod yX5_handOver, Cond.selects RX5 yX5_handOver yX5_handOver, Cond.code yX5_handOver cX5_handOver 3 (some .int), Cond.fieldLink RX5 53 "SwitchFloor" "gotFrames" "[I", Cond.fieldLink RX5 56 "SwitchFloor" "overheardFrames" "[I", Cond.methodLink RX5 248 yX0_tagOut, Cond.instanceMethod yX0_tagOut, Cond.selects RX0 yX0_tagOut yX0_tagOut, Cond.code yX0_tagOut cX0_tagOut 3 (some .int)]
def wsX5_takeStep_r5 : List Cond := [Cond.methodLink RX5 170 yX1_add, Cond.instanceMethod yX1_add, Cond.selects RX1 yX1_add yX1_add, Cond.initialized RX1, Cond.code yX1_add cX1_add 5 none, Cond.fieldLink RX1 24 "SwitchFloor$Steps" "size" "I", Cond.fieldLink RX1 9 "SwitchFloor$Steps" "spot" "[I", Cond.fieldLink RX1 15 "SwitchFloor$Steps" "tag" "[I", Cond.fieldLink RX1 18 "SwitchFloor$Steps" "second" "[I", Cond.fieldLink RX1 21 "SwitchFloor$Steps" "hops" "[I"]
def wsX5_takeStep : List Cond := .code yX5_takeStep cX5_takeStep 9 (some .int) :: ((wsX5_takeStep_r1 ++ (wsX5_takeStep_r2 ++ (wsX5_takeStep_r3 ++ (wsX5_takeStep_r4 ++ wsX5_takeStep_r5)))) ++ wsX50 ++ wsX10 ++ wsX30 ++ wsX00 ++ wsX20 ++ wsX40)
def wsX5_send_r1 : List Cond := [Cond.classLink RX5 67 "java/lang/IllegalArgumentException", Cond.initialized "java/lang/IllegalArgumentException", Cond.classLink RX5 86 "java/lang/IllegalStateException", Cond.initialized "java/lang/IllegalStateException", Cond.fieldLink RX5 12 "SwitchFloor" "wiring" "LSwitchFloor$Wiring;", Cond.fieldLink RX5 116 "SwitchFloor$Wiring" "spotOfHouse" "[I", Cond.fieldLink RX5 45 "SwitchFloor" "steps" "LSwitchFloor$Steps;", Cond.fieldLink RX5 174 "SwitchFloor$Steps" "size" "I", Cond.methodLink RX5 113 yX5_needHouse, Cond.static yX5_needHouse, Cond.initialized RX5, Cond.code yX5_needHouse cX5_needHouse 1 none, Cond.classLink RX5 251 "java/lang/IndexOutOfBoundsException", Cond.initialized "java/lang/IndexOutOfBoundsException", Cond.methodLink RX5 74 yX5_needWithin, Cond.static yX5_needWithin, Cond.code yX5_needWithin cX5_needWithin 3 none, Cond.methodLink RX5 167 yX1_restart, Cond.instanceMethod yX1_restart, Cond.selects RX1 yX1_restart yX1_restart, Cond.initialized RX1, Cond.code yX1_restart cX1_restart 1 none, Cond.fieldLink RX1 24 "SwitchFloor$Steps" "size" "I", Cond.methodLink RX5 170 yX1_add]
def wsX5_send_r2 : List Cond := [Cond.instanceMethod yX1_add, Cond.selects RX1 yX1_add yX1_add, Cond.code yX1_add cX1_add 5 none, Cond.fieldLink RX1 9 "SwitchFloor$Steps" "spot" "[I", Cond.fieldLink RX1 15 "SwitchFloor$Steps" "tag" "[I", Cond.fieldLink RX1 18 "SwitchFloor$Steps" "second" "[I", Cond.fieldLink RX1 21 "SwitchFloor$Steps" "hops" "[I", Cond.methodLink RX5 177 yX5_takeStep, Cond.instanceMethod yX5_takeStep, Cond.selects RX5 yX5_takeStep yX5_takeStep, Cond.code yX5_takeStep cX5_takeStep 9 (some .int), Cond.fieldLink RX5 291 "SwitchFloor$Steps" "spot" "[I", Cond.fieldLink RX5 294 "SwitchFloor$Steps" "tag" "[I", Cond.fieldLink RX5 38 "SwitchFloor" "tables" "LSwitchFloor$Tables;", Cond.fieldLink RX5 21 "SwitchFloor" "tree" "LSwitchFloor$Tree;", Cond.fieldLink RX5 160 "SwitchFloor$Tree" "beats" "I", Cond.fieldLink RX5 198 "SwitchFloor$Tree" "open" "[Z", Cond.methodLink RX5 239 yX5_laneLetIn, Cond.instanceMethod yX5_laneLetIn, Cond.selects RX5 yX5_laneLetIn yX5_laneLetIn, Cond.code yX5_laneLetIn cX5_laneLetIn 3 (some .int), Cond.fieldLink RX5 31 "SwitchFloor" "lanes" "LSwitchFloor$Lanes;", Cond.methodLink RX5 285 yX0_laneIn, Cond.instanceMethod yX0_laneIn]
def wsX5_send_r3 : List Cond := [Cond.selects RX0 yX0_laneIn yX0_laneIn, Cond.initialized RX0, Cond.code yX0_laneIn cX0_laneIn 4 (some .int), Cond.fieldLink RX0 15 "SwitchFloor$Lanes" "untagged" "[I", Cond.methodLink RX0 22 yX0_carries, Cond.instanceMethod yX0_carries, Cond.selects RX0 yX0_carries yX0_carries, Cond.code yX0_carries cX0_carries 3 (some .boolean), Cond.fieldLink RX0 9 "SwitchFloor$Lanes" "carried" "[I", Cond.methodLink RX0 18 yX0_bitOf, Cond.static yX0_bitOf, Cond.code yX0_bitOf cX0_bitOf 1 (some .int), Cond.methodLink RX5 297 yX2_hear, Cond.instanceMethod yX2_hear, Cond.selects RX2 yX2_hear yX2_hear, Cond.initialized RX2, Cond.code yX2_hear cX2_hear 7 none, Cond.fieldLink RX2 11 "SwitchFloor$Tables" "heardBy" "[I", Cond.fieldLink RX2 18 "SwitchFloor$Tables" "entries" "[I", Cond.fieldLink RX2 15 "SwitchFloor$Tables" "heardAt" "[I", Cond.methodLink RX2 21 yX2_indexOf, Cond.static yX2_indexOf, Cond.code yX2_indexOf cX2_indexOf 3 (some .int), Cond.methodLink RX5 207 yX2_portFor]
def wsX5_send_r4 : List Cond := [Cond.instanceMethod yX2_portFor, Cond.selects RX2 yX2_portFor yX2_portFor, Cond.code yX2_portFor cX2_portFor 4 (some .int), Cond.methodLink RX5 78 yX5_spotOf, Cond.static yX5_spotOf, Cond.code yX5_spotOf cX5_spotOf 2 (some .int), Cond.methodLink RX5 300 yX5_flood, Cond.instanceMethod yX5_flood, Cond.selects RX5 yX5_flood yX5_flood, Cond.code yX5_flood cX5_flood 8 (some .int), Cond.fieldLink RX5 49 "SwitchFloor" "floods" "[I", Cond.fieldLink RX5 59 "SwitchFloor" "floodLimit" "I", Cond.methodLink RX5 142 yX5_shutUntil, Cond.instanceMethod yX5_shutUntil, Cond.selects RX5 yX5_shutUntil yX5_shutUntil, Cond.code yX5_shutUntil cX5_shutUntil 3 none, Cond.methodLink RX5 270 yX3_beginShut, Cond.instanceMethod yX3_beginShut, Cond.selects RX3 yX3_beginShut yX3_beginShut, Cond.initialized RX3, Cond.code yX3_beginShut cX3_beginShut 3 none, Cond.fieldLink RX3 24 "SwitchFloor$Tree" "shutTill" "[I", Cond.methodLink RX3 75 yX3_close, Cond.instanceMethod yX3_close]
def wsX5_send_r5 : List Cond := [Cond.selects RX3 yX3_close yX3_close, Cond.code yX3_close cX3_close 2 none, Cond.fieldLink RX3 27 "SwitchFloor$Tree" "open" "[Z", Cond.fieldLink RX3 31 "SwitchFloor$Tree" "role" "[I", Cond.fieldLink RX3 34 "SwitchFloor$Tree" "waited" "[I", Cond.methodLink RX5 267 yX2_forgetPort, Cond.instanceMethod yX2_forgetPort, Cond.selects RX2 yX2_forgetPort yX2_forgetPort, Cond.code yX2_forgetPort cX2_forgetPort 4 none, Cond.methodLink RX2 25 yX2_drop, Cond.instanceMethod yX2_drop, Cond.selects RX2 yX2_drop yX2_drop, Cond.code yX2_drop cX2_drop 2 none, Cond.methodLink RX5 303 yX5_goOut, Cond.instanceMethod yX5_goOut, Cond.selects RX5 yX5_goOut yX5_goOut, Cond.code yX5_goOut cX5_goOut 9 (some .int), Cond.fieldLink RX5 99 "SwitchFloor$Wiring" "peer" "[I", Cond.fieldLink RX5 245 "SwitchFloor$Wiring" "house" "[I", Cond.fieldLink RX5 310 "SwitchFloor$Steps" "hops" "[I", Cond.fieldLink RX5 311 "SwitchFloor$Steps" "second" "[I", Cond.methodLink RX5 288 yX0_carries, Cond.methodLink RX5 307 yX5_handOver, Cond.instanceMethod yX5_handOver]
def wsX5_send_r6 : List Cond := [Cond.selects RX5 yX5_handOver yX5_handOver, Cond.code yX5_handOver cX5_handOver 3 (some .int), Cond.fieldLink RX5 53 "SwitchFloor" "gotFrames" "[I", Cond.fieldLink RX5 56 "SwitchFloor" "overheardFrames" "[I", Cond.methodLink RX5 248 yX0_tagOut, Cond.instanceMethod yX0_tagOut, Cond.selects RX0 yX0_tagOut yX0_tagOut, Cond.code yX0_tagOut cX0_tagOut 3 (some .int)]
def wsX5_send : List Cond := .code yX5_send cX5_send 8 (some .int) :: ((wsX5_send_r1 ++ (wsX5_send_r2 ++ (wsX5_send_r3 ++ (wsX5_send_r4 ++ (wsX5_send_r5 ++ wsX5_send_r6))))) ++ wsX50 ++ wsX40 ++ wsX10 ++ wsX30 ++ wsX00 ++ wsX20 ++ (vx_atS RX5 71 "java/lang/IllegalArgumentException" ["java/lang/RuntimeException", "java/lang/Exception"]).filter goodWord ++ (vx_atS RX5 90 "java/lang/IllegalStateException" ["java/lang/RuntimeException", "java/lang/Exception"]).filter goodWord ++ (vx_atS RX5 255 "java/lang/IndexOutOfBoundsException" ["java/lang/RuntimeException", "java/lang/Exception"]).filter goodWord)
def wsX5_holds : List Cond := .code yX5_holds cX5_holds 3 (some .int) :: ([.classLink RX5 67 "java/lang/IllegalArgumentException", .initialized "java/lang/IllegalArgumentException", .fieldLink RX5 21 "SwitchFloor" "tree" "LSwitchFloor$Tree;", .fieldLink RX5 181 "SwitchFloor$Tree" "root" "[I", .fieldLink RX5 184 "SwitchFloor$Tree" "cost" "[I", .fieldLink RX5 187 "SwitchFloor$Tree" "hops" "[I", .fieldLink RX5 190 "SwitchFloor$Tree" "rootPort" "[I", .fieldLink RX5 38 "SwitchFloor" "tables" "LSwitchFloor$Tables;", .fieldLink RX5 193 "SwitchFloor$Tables" "entries" "[I", .methodLink RX5 130 yX5_needSwitch, .static yX5_needSwitch, .initialized RX5, .code yX5_needSwitch cX5_needSwitch 1 none, .classLink RX5 251 "java/lang/IndexOutOfBoundsException", .initialized "java/lang/IndexOutOfBoundsException"] ++ wsX50 ++ wsX30 ++ wsX20 ++ (vx_atS RX5 71 "java/lang/IllegalArgumentException" ["java/lang/RuntimeException", "java/lang/Exception"]).filter goodWord ++ (vx_atS RX5 255 "java/lang/IndexOutOfBoundsException" ["java/lang/RuntimeException", "java/lang/Exception"]).filter goodWord)
def wsX5_port : List Cond := .code yX5_port cX5_port 5 (some .int) :: ([.classLink RX5 67 "java/lang/IllegalArgumentException", .initialized "java/lang/IllegalArgumentException", .fieldLink RX5 21 "SwitchFloor" "tree" "LSwitchFloor$Tree;", .fieldLink RX5 198 "SwitchFloor$Tree" "open" "[Z", .fieldLink RX5 202 "SwitchFloor$Tree" "role" "[I", .fieldLink RX5 49 "SwitchFloor" "floods" "[I", .methodLink RX5 63 yX5_needPort, .static yX5_needPort, .initialized RX5, .code yX5_needPort cX5_needPort 2 none, .classLink RX5 251 "java/lang/IndexOutOfBoundsException", .initialized "java/lang/IndexOutOfBoundsException", .methodLink RX5 130 yX5_needSwitch, .static yX5_needSwitch, .code yX5_needSwitch cX5_needSwitch 1 none, .methodLink RX5 78 yX5_spotOf, .static yX5_spotOf, .code yX5_spotOf cX5_spotOf 2 (some .int), .methodLink RX5 136 yX3_isShut, .instanceMethod yX3_isShut, .selects RX3 yX3_isShut yX3_isShut, .initialized RX3, .code yX3_isShut cX3_isShut 2 (some .boolean), .fieldLink RX3 24 "SwitchFloor$Tree" "shutTill" "[I"] ++ wsX50 ++ wsX30 ++ (vx_atS RX5 71 "java/lang/IllegalArgumentException" ["java/lang/RuntimeException", "java/lang/Exception"]).filter goodWord ++ (vx_atS RX5 255 "java/lang/IndexOutOfBoundsException" ["java/lang/RuntimeException", "java/lang/Exception"]).filter goodWord)
def wsX5_table : List Cond := .code yX5_table cX5_table 4 (some .int) :: ([.fieldLink RX5 38 "SwitchFloor" "tables" "LSwitchFloor$Tables;", .methodLink RX5 130 yX5_needSwitch, .static yX5_needSwitch, .initialized RX5, .code yX5_needSwitch cX5_needSwitch 1 none, .classLink RX5 251 "java/lang/IndexOutOfBoundsException", .initialized "java/lang/IndexOutOfBoundsException", .methodLink RX5 148 yX5_needLane, .static yX5_needLane, .code yX5_needLane cX5_needLane 1 none, .methodLink RX5 113 yX5_needHouse, .static yX5_needHouse, .code yX5_needHouse cX5_needHouse 1 none, .methodLink RX5 207 yX2_portFor, .instanceMethod yX2_portFor, .selects RX2 yX2_portFor yX2_portFor, .initialized RX2, .code yX2_portFor cX2_portFor 4 (some .int), .fieldLink RX2 11 "SwitchFloor$Tables" "heardBy" "[I", .methodLink RX2 21 yX2_indexOf, .static yX2_indexOf, .code yX2_indexOf cX2_indexOf 3 (some .int)] ++ wsX50 ++ wsX20 ++ (vx_atS RX5 255 "java/lang/IndexOutOfBoundsException" ["java/lang/RuntimeException", "java/lang/Exception"]).filter goodWord)
def wsX5_got : List Cond := .code yX5_got cX5_got 3 (some .int) :: ([.fieldLink RX5 56 "SwitchFloor" "overheardFrames" "[I", .fieldLink RX5 53 "SwitchFloor" "gotFrames" "[I", .methodLink RX5 113 yX5_needHouse, .static yX5_needHouse, .initialized RX5, .code yX5_needHouse cX5_needHouse 1 none, .classLink RX5 251 "java/lang/IndexOutOfBoundsException", .initialized "java/lang/IndexOutOfBoundsException"] ++ wsX50 ++ (vx_atS RX5 255 "java/lang/IndexOutOfBoundsException" ["java/lang/RuntimeException", "java/lang/Exception"]).filter goodWord)
def wsX5_isAtRest_r1 : List Cond := [Cond.fieldLink RX5 25 "SwitchFloor" "ahead" "LSwitchFloor$Tree;", Cond.fieldLink RX5 21 "SwitchFloor" "tree" "LSwitchFloor$Tree;", Cond.methodLink RX5 210 yX3_copyFrom, Cond.instanceMethod yX3_copyFrom, Cond.selects RX3 yX3_copyFrom yX3_copyFrom, Cond.initialized RX3, Cond.code yX3_copyFrom cX3_copyFrom 3 none, Cond.fieldLink RX3 9 "SwitchFloor$Tree" "root" "[I", Cond.fieldLink RX3 15 "SwitchFloor$Tree" "cost" "[I", Cond.fieldLink RX3 18 "SwitchFloor$Tree" "hops" "[I", Cond.fieldLink RX3 21 "SwitchFloor$Tree" "rootPort" "[I", Cond.fieldLink RX3 24 "SwitchFloor$Tree" "shutTill" "[I", Cond.fieldLink RX3 27 "SwitchFloor$Tree" "open" "[Z", Cond.fieldLink RX3 31 "SwitchFloor$Tree" "role" "[I", Cond.fieldLink RX3 34 "SwitchFloor$Tree" "waited" "[I", Cond.fieldLink RX3 59 "SwitchFloor$Tree" "beats" "I", Cond.methodLink RX5 214 yX3_pass, Cond.instanceMethod yX3_pass, Cond.selects RX3 yX3_pass yX3_pass, Cond.code yX3_pass cX3_pass 2 none, Cond.fieldLink RX3 49 "SwitchFloor$Tree" "stale" "[Z", Cond.methodLink RX3 82 yX3_tell, Cond.instanceMethod yX3_tell, Cond.selects RX3 yX3_tell yX3_tell]
def wsX5_isAtRest_r2 : List Cond := [Cond.code yX3_tell cX3_tell 3 none, Cond.fieldLink RX3 37 "SwitchFloor$Tree" "toldRoot" "[I", Cond.fieldLink RX3 55 "SwitchFloor$Tree" "wiring" "LSwitchFloor$Wiring;", Cond.fieldLink RX3 63 "SwitchFloor$Wiring" "peer" "[I", Cond.fieldLink RX3 40 "SwitchFloor$Tree" "toldCost" "[I", Cond.fieldLink RX3 43 "SwitchFloor$Tree" "toldHops" "[I", Cond.methodLink RX3 100 yX3_isJoined, Cond.instanceMethod yX3_isJoined, Cond.selects RX3 yX3_isJoined yX3_isJoined, Cond.code yX3_isJoined cX3_isJoined 3 (some .boolean), Cond.methodLink RX3 68 yX3_isShut, Cond.instanceMethod yX3_isShut, Cond.selects RX3 yX3_isShut yX3_isShut, Cond.code yX3_isShut cX3_isShut 2 (some .boolean), Cond.methodLink RX3 85 yX3_guardForHouses, Cond.instanceMethod yX3_guardForHouses, Cond.selects RX3 yX3_guardForHouses yX3_guardForHouses, Cond.code yX3_guardForHouses cX3_guardForHouses 2 none, Cond.fieldLink RX3 46 "SwitchFloor$Tree" "caught" "[Z", Cond.fieldLink RX3 103 "SwitchFloor$Wiring" "guard" "[I", Cond.methodLink RX3 106 yX3_beginShut, Cond.instanceMethod yX3_beginShut, Cond.selects RX3 yX3_beginShut yX3_beginShut, Cond.code yX3_beginShut cX3_beginShut 3 none]
def wsX5_isAtRest_r3 : List Cond := [Cond.methodLink RX3 75 yX3_close, Cond.instanceMethod yX3_close, Cond.selects RX3 yX3_close yX3_close, Cond.code yX3_close cX3_close 2 none, Cond.methodLink RX3 88 yX3_takeBest, Cond.instanceMethod yX3_takeBest, Cond.selects RX3 yX3_takeBest yX3_takeBest, Cond.code yX3_takeBest cX3_takeBest 5 none, Cond.static yX5_spotOf, Cond.initialized RX5, Cond.code yX5_spotOf cX5_spotOf 2 (some .int), Cond.methodLink RX3 114 yX3_offer, Cond.instanceMethod yX3_offer, Cond.selects RX3 yX3_offer yX3_offer, Cond.code yX3_offer cX3_offer 3 none, Cond.fieldLink RX3 124 "SwitchFloor$Wiring" "cost" "[I", Cond.methodLink RX3 121 yX3_isBetterThanHeld, Cond.instanceMethod yX3_isBetterThanHeld, Cond.selects RX3 yX3_isBetterThanHeld yX3_isBetterThanHeld, Cond.code yX3_isBetterThanHeld cX3_isBetterThanHeld 6 (some .boolean), Cond.methodLink RX3 117 yX4_isBetterName, Cond.instanceMethod yX4_isBetterName, Cond.selects RX4 yX4_isBetterName yX4_isBetterName, Cond.initialized RX4]
def wsX5_isAtRest_r4 : List Cond := [Cond.code yX4_isBetterName cX4_isBetterName 3 (some .boolean), Cond.fieldLink RX4 27 "SwitchFloor$Wiring" "rank" "[I", Cond.methodLink RX3 91 yX3_turn, Cond.instanceMethod yX3_turn, Cond.selects RX3 yX3_turn yX3_turn, Cond.code yX3_turn cX3_turn 2 none, Cond.methodLink RX3 125 yX3_roleOf, Cond.instanceMethod yX3_roleOf, Cond.selects RX3 yX3_roleOf yX3_roleOf, Cond.code yX3_roleOf cX3_roleOf 2 (some .int), Cond.methodLink RX3 133 yX3_isHeldBetter, Cond.instanceMethod yX3_isHeldBetter, Cond.selects RX3 yX3_isHeldBetter yX3_isHeldBetter, Cond.code yX3_isHeldBetter cX3_isHeldBetter 3 (some .boolean), Cond.methodLink RX3 129 yX3_turnTo, Cond.instanceMethod yX3_turnTo, Cond.selects RX3 yX3_turnTo yX3_turnTo, Cond.code yX3_turnTo cX3_turnTo 3 none, Cond.methodLink RX3 94 yX3_spreadStale, Cond.instanceMethod yX3_spreadStale, Cond.selects RX3 yX3_spreadStale yX3_spreadStale, Cond.code yX3_spreadStale cX3_spreadStale 3 none, Cond.methodLink RX3 97 yX3_endStorms, Cond.instanceMethod yX3_endStorms]
def wsX5_isAtRest_r5 : List Cond := [Cond.selects RX3 yX3_endStorms yX3_endStorms, Cond.code yX3_endStorms cX3_endStorms 2 none, Cond.methodLink RX3 136 yX3_endShut, Cond.instanceMethod yX3_endShut, Cond.selects RX3 yX3_endShut yX3_endShut, Cond.code yX3_endShut cX3_endShut 2 none, Cond.methodLink RX3 79 yX3_openForHouse, Cond.instanceMethod yX3_openForHouse, Cond.selects RX3 yX3_openForHouse yX3_openForHouse, Cond.code yX3_openForHouse cX3_openForHouse 2 none, Cond.fieldLink RX3 72 "SwitchFloor$Wiring" "house" "[I", Cond.methodLink RX5 217 yX3_looksLike, Cond.instanceMethod yX3_looksLike, Cond.selects RX3 yX3_looksLike yX3_looksLike, Cond.code yX3_looksLike cX3_looksLike 3 (some .boolean), Cond.methodLink RX5 221 yX3_hasWaitingPort, Cond.instanceMethod yX3_hasWaitingPort, Cond.selects RX3 yX3_hasWaitingPort yX3_hasWaitingPort, Cond.code yX3_hasWaitingPort cX3_hasWaitingPort 2 (some .boolean)]
def wsX5_isAtRest : List Cond := .code yX5_isAtRest cX5_isAtRest 1 (some .boolean) :: ((wsX5_isAtRest_r1 ++ (wsX5_isAtRest_r2 ++ (wsX5_isAtRest_r3 ++ (wsX5_isAtRest_r4 ++ wsX5_isAtRest_r5)))) ++ wsX50 ++ wsX30 ++ wsX40)
def wsX5_found_r1 : List Cond := [Cond.fieldLink RX5 21 "SwitchFloor" "tree" "LSwitchFloor$Tree;", Cond.fieldLink RX5 228 "SwitchFloor$Tree" "way" "[I", Cond.fieldLink RX5 12 "SwitchFloor" "wiring" "LSwitchFloor$Wiring;", Cond.methodLink RX5 130 yX5_needSwitch, Cond.static yX5_needSwitch, Cond.initialized RX5, Cond.code yX5_needSwitch cX5_needSwitch 1 none, Cond.classLink RX5 251 "java/lang/IndexOutOfBoundsException", Cond.initialized "java/lang/IndexOutOfBoundsException", Cond.methodLink RX5 225 yX3_measureWays, Cond.instanceMethod yX3_measureWays, Cond.selects RX3 yX3_measureWays yX3_measureWays, Cond.initialized RX3, Cond.code yX3_measureWays cX3_measureWays 4 none, Cond.fieldLink RX3 52 "SwitchFloor$Tree" "way" "[I", Cond.fieldLink RX3 55 "SwitchFloor$Tree" "wiring" "LSwitchFloor$Wiring;", Cond.fieldLink RX3 63 "SwitchFloor$Wiring" "peer" "[I", Cond.fieldLink RX3 124 "SwitchFloor$Wiring" "cost" "[I", Cond.methodLink RX3 100 yX3_isJoined, Cond.instanceMethod yX3_isJoined, Cond.selects RX3 yX3_isJoined yX3_isJoined, Cond.code yX3_isJoined cX3_isJoined 3 (some .boolean), Cond.methodLink RX3 68 yX3_isShut, Cond.instanceMethod yX3_isShut]
def wsX5_found_r2 : List Cond := [Cond.selects RX3 yX3_isShut yX3_isShut, Cond.code yX3_isShut cX3_isShut 2 (some .boolean), Cond.fieldLink RX3 24 "SwitchFloor$Tree" "shutTill" "[I", Cond.methodLink RX3 139 yX3_shorten, Cond.instanceMethod yX3_shorten, Cond.selects RX3 yX3_shorten yX3_shorten, Cond.code yX3_shorten cX3_shorten 3 none, Cond.methodLink RX5 231 yX4_isBetterName, Cond.instanceMethod yX4_isBetterName, Cond.selects RX4 yX4_isBetterName yX4_isBetterName, Cond.initialized RX4, Cond.code yX4_isBetterName cX4_isBetterName 3 (some .boolean), Cond.fieldLink RX4 27 "SwitchFloor$Wiring" "rank" "[I"]
def wsX5_found : List Cond := .code yX5_found cX5_found 4 (some .int) :: ((wsX5_found_r1 ++ wsX5_found_r2) ++ wsX50 ++ wsX30 ++ wsX40 ++ (vx_atS RX5 255 "java/lang/IndexOutOfBoundsException" ["java/lang/RuntimeException", "java/lang/Exception"]).filter goodWord)
def wsX5_wayTold_r1 : List Cond := [Cond.fieldLink RX5 38 "SwitchFloor" "tables" "LSwitchFloor$Tables;", Cond.fieldLink RX5 21 "SwitchFloor" "tree" "LSwitchFloor$Tree;", Cond.fieldLink RX5 198 "SwitchFloor$Tree" "open" "[Z", Cond.fieldLink RX5 31 "SwitchFloor" "lanes" "LSwitchFloor$Lanes;", Cond.methodLink RX5 207 yX2_portFor, Cond.instanceMethod yX2_portFor, Cond.selects RX2 yX2_portFor yX2_portFor, Cond.initialized RX2, Cond.code yX2_portFor cX2_portFor 4 (some .int), Cond.fieldLink RX2 11 "SwitchFloor$Tables" "heardBy" "[I", Cond.methodLink RX2 21 yX2_indexOf, Cond.static yX2_indexOf, Cond.code yX2_indexOf cX2_indexOf 3 (some .int), Cond.methodLink RX5 78 yX5_spotOf, Cond.static yX5_spotOf, Cond.initialized RX5, Cond.code yX5_spotOf cX5_spotOf 2 (some .int), Cond.methodLink RX5 288 yX0_carries, Cond.instanceMethod yX0_carries, Cond.selects RX0 yX0_carries yX0_carries, Cond.initialized RX0, Cond.code yX0_carries cX0_carries 3 (some .boolean), Cond.fieldLink RX0 9 "SwitchFloor$Lanes" "carried" "[I", Cond.methodLink RX0 18 yX0_bitOf]
def wsX5_wayTold_r2 : List Cond := [Cond.static yX0_bitOf, Cond.code yX0_bitOf cX0_bitOf 1 (some .int)]
def wsX5_wayTold : List Cond := .code yX5_wayTold cX5_wayTold 6 (some .int) :: ((wsX5_wayTold_r1 ++ wsX5_wayTold_r2) ++ wsX50 ++ wsX30 ++ wsX20 ++ wsX00)
def wsX5_walk_r1 : List Cond := [Cond.classLink RX5 67 "java/lang/IllegalArgumentException", Cond.initialized "java/lang/IllegalArgumentException", Cond.classLink RX5 86 "java/lang/IllegalStateException", Cond.initialized "java/lang/IllegalStateException", Cond.fieldLink RX5 12 "SwitchFloor" "wiring" "LSwitchFloor$Wiring;", Cond.fieldLink RX5 116 "SwitchFloor$Wiring" "spotOfHouse" "[I", Cond.fieldLink RX5 99 "SwitchFloor$Wiring" "peer" "[I", Cond.fieldLink RX5 245 "SwitchFloor$Wiring" "house" "[I", Cond.fieldLink RX5 31 "SwitchFloor" "lanes" "LSwitchFloor$Lanes;", Cond.methodLink RX5 113 yX5_needHouse, Cond.static yX5_needHouse, Cond.initialized RX5, Cond.code yX5_needHouse cX5_needHouse 1 none, Cond.classLink RX5 251 "java/lang/IndexOutOfBoundsException", Cond.initialized "java/lang/IndexOutOfBoundsException", Cond.methodLink RX5 239 yX5_laneLetIn, Cond.instanceMethod yX5_laneLetIn, Cond.selects RX5 yX5_laneLetIn yX5_laneLetIn, Cond.code yX5_laneLetIn cX5_laneLetIn 3 (some .int), Cond.fieldLink RX5 21 "SwitchFloor" "tree" "LSwitchFloor$Tree;", Cond.fieldLink RX5 198 "SwitchFloor$Tree" "open" "[Z", Cond.methodLink RX5 285 yX0_laneIn, Cond.instanceMethod yX0_laneIn, Cond.selects RX0 yX0_laneIn yX0_laneIn]
def wsX5_walk_r2 : List Cond := [Cond.initialized RX0, Cond.code yX0_laneIn cX0_laneIn 4 (some .int), Cond.fieldLink RX0 15 "SwitchFloor$Lanes" "untagged" "[I", Cond.methodLink RX0 22 yX0_carries, Cond.instanceMethod yX0_carries, Cond.selects RX0 yX0_carries yX0_carries, Cond.code yX0_carries cX0_carries 3 (some .boolean), Cond.fieldLink RX0 9 "SwitchFloor$Lanes" "carried" "[I", Cond.methodLink RX0 18 yX0_bitOf, Cond.static yX0_bitOf, Cond.code yX0_bitOf cX0_bitOf 1 (some .int), Cond.methodLink RX5 242 yX5_wayTold, Cond.instanceMethod yX5_wayTold, Cond.selects RX5 yX5_wayTold yX5_wayTold, Cond.code yX5_wayTold cX5_wayTold 6 (some .int), Cond.fieldLink RX5 38 "SwitchFloor" "tables" "LSwitchFloor$Tables;", Cond.methodLink RX5 207 yX2_portFor, Cond.instanceMethod yX2_portFor, Cond.selects RX2 yX2_portFor yX2_portFor, Cond.initialized RX2, Cond.code yX2_portFor cX2_portFor 4 (some .int), Cond.fieldLink RX2 11 "SwitchFloor$Tables" "heardBy" "[I", Cond.methodLink RX2 21 yX2_indexOf, Cond.static yX2_indexOf]
def wsX5_walk_r3 : List Cond := [Cond.code yX2_indexOf cX2_indexOf 3 (some .int), Cond.methodLink RX5 78 yX5_spotOf, Cond.static yX5_spotOf, Cond.code yX5_spotOf cX5_spotOf 2 (some .int), Cond.methodLink RX5 288 yX0_carries, Cond.methodLink RX5 248 yX0_tagOut, Cond.instanceMethod yX0_tagOut, Cond.selects RX0 yX0_tagOut yX0_tagOut, Cond.code yX0_tagOut cX0_tagOut 3 (some .int)]
def wsX5_walk : List Cond := .code yX5_walk cX5_walk 8 (some .int) :: ((wsX5_walk_r1 ++ (wsX5_walk_r2 ++ wsX5_walk_r3)) ++ wsX50 ++ wsX40 ++ wsX30 ++ wsX00 ++ wsX20 ++ (vx_atS RX5 71 "java/lang/IllegalArgumentException" ["java/lang/RuntimeException", "java/lang/Exception"]).filter goodWord ++ (vx_atS RX5 90 "java/lang/IllegalStateException" ["java/lang/RuntimeException", "java/lang/Exception"]).filter goodWord ++ (vx_atS RX5 255 "java/lang/IndexOutOfBoundsException" ["java/lang/RuntimeException", "java/lang/Exception"]).filter goodWord)
def wsL_part : List Cond := .code yL_part cL_part 4 (some .int) :: ([.constant RL 7 (2147483647)])
def wsL_plained_r1 : List Cond := [Cond.methodLink RL 78 yX5_plain, Cond.instanceMethod yX5_plain, Cond.selects RX5 yX5_plain yX5_plain, Cond.initialized RX5, Cond.code yX5_plain cX5_plain 4 none, Cond.fieldLink RX5 31 "SwitchFloor" "lanes" "LSwitchFloor$Lanes;", Cond.methodLink RX5 63 yX5_needPort, Cond.static yX5_needPort, Cond.code yX5_needPort cX5_needPort 2 none, Cond.classLink RX5 251 "java/lang/IndexOutOfBoundsException", Cond.initialized "java/lang/IndexOutOfBoundsException", Cond.methodLink RX5 130 yX5_needSwitch, Cond.static yX5_needSwitch, Cond.code yX5_needSwitch cX5_needSwitch 1 none, Cond.methodLink RX5 148 yX5_needLane, Cond.static yX5_needLane, Cond.code yX5_needLane cX5_needLane 1 none, Cond.methodLink RX5 78 yX5_spotOf, Cond.static yX5_spotOf, Cond.code yX5_spotOf cX5_spotOf 2 (some .int), Cond.methodLink RX5 151 yX0_bitOf, Cond.static yX0_bitOf, Cond.initialized RX0, Cond.code yX0_bitOf cX0_bitOf 1 (some .int)]
def wsL_plained_r2 : List Cond := [Cond.methodLink RX5 154 yX0_setUp, Cond.instanceMethod yX0_setUp, Cond.selects RX0 yX0_setUp yX0_setUp, Cond.code yX0_setUp cX0_setUp 4 none, Cond.fieldLink RX0 9 "SwitchFloor$Lanes" "carried" "[I", Cond.fieldLink RX0 15 "SwitchFloor$Lanes" "untagged" "[I"]
def wsL_plained : List Cond := .code yL_plained cL_plained 4 (some .int) :: ((wsL_plained_r1 ++ wsL_plained_r2) ++ wsX50 ++ wsX00 ++ (vx_atS RX5 255 "java/lang/IndexOutOfBoundsException" ["java/lang/RuntimeException", "java/lang/Exception"]).filter goodWord)
def wsL_trunked_r1 : List Cond := [Cond.methodLink RL 82 yX5_trunk, Cond.instanceMethod yX5_trunk, Cond.selects RX5 yX5_trunk yX5_trunk, Cond.initialized RX5, Cond.code yX5_trunk cX5_trunk 5 none, Cond.fieldLink RX5 31 "SwitchFloor" "lanes" "LSwitchFloor$Lanes;", Cond.methodLink RX5 63 yX5_needPort, Cond.static yX5_needPort, Cond.code yX5_needPort cX5_needPort 2 none, Cond.classLink RX5 251 "java/lang/IndexOutOfBoundsException", Cond.initialized "java/lang/IndexOutOfBoundsException", Cond.methodLink RX5 130 yX5_needSwitch, Cond.static yX5_needSwitch, Cond.code yX5_needSwitch cX5_needSwitch 1 none, Cond.methodLink RX5 148 yX5_needLane, Cond.static yX5_needLane, Cond.code yX5_needLane cX5_needLane 1 none, Cond.methodLink RX5 74 yX5_needWithin, Cond.static yX5_needWithin, Cond.code yX5_needWithin cX5_needWithin 3 none, Cond.classLink RX5 67 "java/lang/IllegalArgumentException", Cond.initialized "java/lang/IllegalArgumentException", Cond.methodLink RX5 78 yX5_spotOf, Cond.static yX5_spotOf]
def wsL_trunked_r2 : List Cond := [Cond.code yX5_spotOf cX5_spotOf 2 (some .int), Cond.methodLink RX5 154 yX0_setUp, Cond.instanceMethod yX0_setUp, Cond.selects RX0 yX0_setUp yX0_setUp, Cond.initialized RX0, Cond.code yX0_setUp cX0_setUp 4 none, Cond.fieldLink RX0 9 "SwitchFloor$Lanes" "carried" "[I", Cond.fieldLink RX0 15 "SwitchFloor$Lanes" "untagged" "[I"]
def wsL_trunked : List Cond := .code yL_trunked cL_trunked 5 (some .int) :: ((wsL_trunked_r1 ++ wsL_trunked_r2) ++ wsX50 ++ wsX00 ++ (vx_atS RX5 255 "java/lang/IndexOutOfBoundsException" ["java/lang/RuntimeException", "java/lang/Exception"]).filter goodWord ++ (vx_atS RX5 71 "java/lang/IllegalArgumentException" ["java/lang/RuntimeException", "java/lang/Exception"]).filter goodWord)
def wsL_does_r1 : List Cond := [Cond.classLink RL 72 "java/lang/IndexOutOfBoundsException", Cond.classLink RL 74 "java/lang/IllegalArgumentException", Cond.classLink RL 76 "java/lang/IllegalStateException", Cond.methodLink RL 8 yX5_wire, Cond.instanceMethod yX5_wire, Cond.selects RX5 yX5_wire yX5_wire, Cond.initialized RX5, Cond.code yX5_wire cX5_wire 8 (some .int), Cond.classLink RX5 67 "java/lang/IllegalArgumentException", Cond.initialized "java/lang/IllegalArgumentException", Cond.classLink RX5 86 "java/lang/IllegalStateException", Cond.initialized "java/lang/IllegalStateException", Cond.fieldLink RX5 12 "SwitchFloor" "wiring" "LSwitchFloor$Wiring;", Cond.fieldLink RX5 94 "SwitchFloor$Wiring" "wires" "I", Cond.methodLink RX5 63 yX5_needPort, Cond.static yX5_needPort, Cond.code yX5_needPort cX5_needPort 2 none, Cond.classLink RX5 251 "java/lang/IndexOutOfBoundsException", Cond.initialized "java/lang/IndexOutOfBoundsException", Cond.methodLink RX5 130 yX5_needSwitch, Cond.static yX5_needSwitch, Cond.code yX5_needSwitch cX5_needSwitch 1 none, Cond.methodLink RX5 74 yX5_needWithin, Cond.static yX5_needWithin]
def wsL_does_r2 : List Cond := [Cond.code yX5_needWithin cX5_needWithin 3 none, Cond.methodLink RX5 78 yX5_spotOf, Cond.static yX5_spotOf, Cond.code yX5_spotOf cX5_spotOf 2 (some .int), Cond.methodLink RX5 82 yX4_isBare, Cond.instanceMethod yX4_isBare, Cond.selects RX4 yX4_isBare yX4_isBare, Cond.initialized RX4, Cond.code yX4_isBare cX4_isBare 2 (some .boolean), Cond.fieldLink RX4 9 "SwitchFloor$Wiring" "peer" "[I", Cond.fieldLink RX4 18 "SwitchFloor$Wiring" "house" "[I", Cond.methodLink RX5 91 yX4_putWire, Cond.instanceMethod yX4_putWire, Cond.selects RX4 yX4_putWire yX4_putWire, Cond.code yX4_putWire cX4_putWire 4 none, Cond.fieldLink RX4 15 "SwitchFloor$Wiring" "cost" "[I", Cond.fieldLink RX4 30 "SwitchFloor$Wiring" "wires" "I", Cond.methodLink RL 14 yX5_free, Cond.instanceMethod yX5_free, Cond.selects RX5 yX5_free yX5_free, Cond.code yX5_free cX5_free 5 (some .int), Cond.fieldLink RX5 99 "SwitchFloor$Wiring" "peer" "[I", Cond.methodLink RX5 102 yX5_dropUse, Cond.instanceMethod yX5_dropUse]
def wsL_does_r3 : List Cond := [Cond.selects RX5 yX5_dropUse yX5_dropUse, Cond.code yX5_dropUse cX5_dropUse 2 none, Cond.fieldLink RX5 21 "SwitchFloor" "tree" "LSwitchFloor$Tree;", Cond.fieldLink RX5 38 "SwitchFloor" "tables" "LSwitchFloor$Tables;", Cond.methodLink RX5 264 yX3_close, Cond.instanceMethod yX3_close, Cond.selects RX3 yX3_close yX3_close, Cond.initialized RX3, Cond.code yX3_close cX3_close 2 none, Cond.fieldLink RX3 27 "SwitchFloor$Tree" "open" "[Z", Cond.fieldLink RX3 31 "SwitchFloor$Tree" "role" "[I", Cond.fieldLink RX3 34 "SwitchFloor$Tree" "waited" "[I", Cond.methodLink RX5 267 yX2_forgetPort, Cond.instanceMethod yX2_forgetPort, Cond.selects RX2 yX2_forgetPort yX2_forgetPort, Cond.initialized RX2, Cond.code yX2_forgetPort cX2_forgetPort 4 none, Cond.fieldLink RX2 11 "SwitchFloor$Tables" "heardBy" "[I", Cond.methodLink RX2 25 yX2_drop, Cond.instanceMethod yX2_drop, Cond.selects RX2 yX2_drop yX2_drop, Cond.code yX2_drop cX2_drop 2 none, Cond.fieldLink RX2 18 "SwitchFloor$Tables" "entries" "[I", Cond.methodLink RX5 106 yX4_takeHouse]
def wsL_does_r4 : List Cond := [Cond.instanceMethod yX4_takeHouse, Cond.selects RX4 yX4_takeHouse yX4_takeHouse, Cond.code yX4_takeHouse cX4_takeHouse 3 (some .int), Cond.fieldLink RX4 24 "SwitchFloor$Wiring" "spotOfHouse" "[I", Cond.fieldLink RX4 34 "SwitchFloor$Wiring" "houses" "I", Cond.methodLink RX5 110 yX4_takeWire, Cond.instanceMethod yX4_takeWire, Cond.selects RX4 yX4_takeWire yX4_takeWire, Cond.code yX4_takeWire cX4_takeWire 3 none, Cond.methodLink RL 18 yX5_house, Cond.instanceMethod yX5_house, Cond.selects RX5 yX5_house yX5_house, Cond.code yX5_house cX5_house 5 (some .int), Cond.fieldLink RX5 116 "SwitchFloor$Wiring" "spotOfHouse" "[I", Cond.fieldLink RX5 127 "SwitchFloor$Wiring" "houses" "I", Cond.methodLink RX5 113 yX5_needHouse, Cond.static yX5_needHouse, Cond.code yX5_needHouse cX5_needHouse 1 none, Cond.methodLink RX5 121 yX4_putHouse, Cond.instanceMethod yX4_putHouse, Cond.selects RX4 yX4_putHouse yX4_putHouse, Cond.code yX4_putHouse cX4_putHouse 3 none, Cond.methodLink RX5 124 yX3_openForHouse, Cond.instanceMethod yX3_openForHouse]
def wsL_does_r5 : List Cond := [Cond.selects RX3 yX3_openForHouse yX3_openForHouse, Cond.code yX3_openForHouse cX3_openForHouse 2 none, Cond.fieldLink RX3 55 "SwitchFloor$Tree" "wiring" "LSwitchFloor$Wiring;", Cond.fieldLink RX3 72 "SwitchFloor$Wiring" "house" "[I", Cond.methodLink RX3 68 yX3_isShut, Cond.instanceMethod yX3_isShut, Cond.selects RX3 yX3_isShut yX3_isShut, Cond.code yX3_isShut cX3_isShut 2 (some .boolean), Cond.fieldLink RX3 24 "SwitchFloor$Tree" "shutTill" "[I", Cond.methodLink RL 22 yX5_rank, Cond.instanceMethod yX5_rank, Cond.selects RX5 yX5_rank yX5_rank, Cond.code yX5_rank cX5_rank 4 (some .int), Cond.fieldLink RX5 133 "SwitchFloor$Wiring" "rank" "[I", Cond.methodLink RL 25 yX5_shut, Cond.instanceMethod yX5_shut, Cond.selects RX5 yX5_shut yX5_shut, Cond.code yX5_shut cX5_shut 4 (some .boolean), Cond.methodLink RX5 136 yX3_isShut, Cond.methodLink RX5 139 yX3_endShut, Cond.instanceMethod yX3_endShut, Cond.selects RX3 yX3_endShut yX3_endShut, Cond.code yX3_endShut cX3_endShut 2 none, Cond.methodLink RX3 79 yX3_openForHouse]
def wsL_does_r6 : List Cond := [Cond.methodLink RX5 142 yX5_shutUntil, Cond.instanceMethod yX5_shutUntil, Cond.selects RX5 yX5_shutUntil yX5_shutUntil, Cond.code yX5_shutUntil cX5_shutUntil 3 none, Cond.methodLink RX5 270 yX3_beginShut, Cond.instanceMethod yX3_beginShut, Cond.selects RX3 yX3_beginShut yX3_beginShut, Cond.code yX3_beginShut cX3_beginShut 3 none, Cond.methodLink RX3 75 yX3_close, Cond.methodLink RL 29 yX5_guard, Cond.instanceMethod yX5_guard, Cond.selects RX5 yX5_guard yX5_guard, Cond.code yX5_guard cX5_guard 6 (some .int), Cond.fieldLink RX5 145 "SwitchFloor$Wiring" "guard" "[I", Cond.methodLink RL 32 yL_plained, Cond.static yL_plained, Cond.initialized RL, Cond.code yL_plained cL_plained 4 (some .int), Cond.methodLink RL 78 yX5_plain, Cond.instanceMethod yX5_plain, Cond.selects RX5 yX5_plain yX5_plain, Cond.code yX5_plain cX5_plain 4 none, Cond.fieldLink RX5 31 "SwitchFloor" "lanes" "LSwitchFloor$Lanes;", Cond.methodLink RX5 148 yX5_needLane]
def wsL_does_r7 : List Cond := [Cond.static yX5_needLane, Cond.code yX5_needLane cX5_needLane 1 none, Cond.methodLink RX5 151 yX0_bitOf, Cond.static yX0_bitOf, Cond.initialized RX0, Cond.code yX0_bitOf cX0_bitOf 1 (some .int), Cond.methodLink RX5 154 yX0_setUp, Cond.instanceMethod yX0_setUp, Cond.selects RX0 yX0_setUp yX0_setUp, Cond.code yX0_setUp cX0_setUp 4 none, Cond.fieldLink RX0 9 "SwitchFloor$Lanes" "carried" "[I", Cond.fieldLink RX0 15 "SwitchFloor$Lanes" "untagged" "[I", Cond.methodLink RL 38 yL_trunked, Cond.static yL_trunked, Cond.code yL_trunked cL_trunked 5 (some .int), Cond.methodLink RL 82 yX5_trunk, Cond.instanceMethod yX5_trunk, Cond.selects RX5 yX5_trunk yX5_trunk, Cond.code yX5_trunk cX5_trunk 5 none, Cond.methodLink RL 42 yX5_limit, Cond.instanceMethod yX5_limit, Cond.selects RX5 yX5_limit yX5_limit, Cond.code yX5_limit cX5_limit 3 (some .int), Cond.fieldLink RX5 59 "SwitchFloor" "floodLimit" "I"]
def wsL_does_r8 : List Cond := [Cond.methodLink RL 46 yX5_beat, Cond.instanceMethod yX5_beat, Cond.selects RX5 yX5_beat yX5_beat, Cond.code yX5_beat cX5_beat 3 (some .int), Cond.fieldLink RX5 160 "SwitchFloor$Tree" "beats" "I", Cond.methodLink RX5 157 yX5_passBeat, Cond.instanceMethod yX5_passBeat, Cond.selects RX5 yX5_passBeat yX5_passBeat, Cond.code yX5_passBeat cX5_passBeat 2 none, Cond.fieldLink RX5 49 "SwitchFloor" "floods" "[I", Cond.fieldLink RX5 273 "SwitchFloor$Tree" "caught" "[Z", Cond.fieldLink RX5 276 "SwitchFloor$Tree" "stale" "[Z", Cond.methodLink RX5 214 yX3_pass, Cond.instanceMethod yX3_pass, Cond.selects RX3 yX3_pass yX3_pass, Cond.code yX3_pass cX3_pass 2 none, Cond.fieldLink RX3 59 "SwitchFloor$Tree" "beats" "I", Cond.fieldLink RX3 49 "SwitchFloor$Tree" "stale" "[Z", Cond.methodLink RX3 82 yX3_tell, Cond.instanceMethod yX3_tell, Cond.selects RX3 yX3_tell yX3_tell, Cond.code yX3_tell cX3_tell 3 none, Cond.fieldLink RX3 37 "SwitchFloor$Tree" "toldRoot" "[I", Cond.fieldLink RX3 63 "SwitchFloor$Wiring" "peer" "[I"]
def wsL_does_r9 : List Cond := [Cond.fieldLink RX3 9 "SwitchFloor$Tree" "root" "[I", Cond.fieldLink RX3 40 "SwitchFloor$Tree" "toldCost" "[I", Cond.fieldLink RX3 15 "SwitchFloor$Tree" "cost" "[I", Cond.fieldLink RX3 43 "SwitchFloor$Tree" "toldHops" "[I", Cond.fieldLink RX3 18 "SwitchFloor$Tree" "hops" "[I", Cond.methodLink RX3 100 yX3_isJoined, Cond.instanceMethod yX3_isJoined, Cond.selects RX3 yX3_isJoined yX3_isJoined, Cond.code yX3_isJoined cX3_isJoined 3 (some .boolean), Cond.methodLink RX3 85 yX3_guardForHouses, Cond.instanceMethod yX3_guardForHouses, Cond.selects RX3 yX3_guardForHouses yX3_guardForHouses, Cond.code yX3_guardForHouses cX3_guardForHouses 2 none, Cond.fieldLink RX3 46 "SwitchFloor$Tree" "caught" "[Z", Cond.fieldLink RX3 103 "SwitchFloor$Wiring" "guard" "[I", Cond.methodLink RX3 106 yX3_beginShut, Cond.methodLink RX3 88 yX3_takeBest, Cond.instanceMethod yX3_takeBest, Cond.selects RX3 yX3_takeBest yX3_takeBest, Cond.code yX3_takeBest cX3_takeBest 5 none, Cond.fieldLink RX3 21 "SwitchFloor$Tree" "rootPort" "[I", Cond.methodLink RX3 114 yX3_offer, Cond.instanceMethod yX3_offer, Cond.selects RX3 yX3_offer yX3_offer]
def wsL_does_r10 : List Cond := [Cond.code yX3_offer cX3_offer 3 none, Cond.fieldLink RX3 124 "SwitchFloor$Wiring" "cost" "[I", Cond.methodLink RX3 121 yX3_isBetterThanHeld, Cond.instanceMethod yX3_isBetterThanHeld, Cond.selects RX3 yX3_isBetterThanHeld yX3_isBetterThanHeld, Cond.code yX3_isBetterThanHeld cX3_isBetterThanHeld 6 (some .boolean), Cond.methodLink RX3 117 yX4_isBetterName, Cond.instanceMethod yX4_isBetterName, Cond.selects RX4 yX4_isBetterName yX4_isBetterName, Cond.code yX4_isBetterName cX4_isBetterName 3 (some .boolean), Cond.fieldLink RX4 27 "SwitchFloor$Wiring" "rank" "[I", Cond.methodLink RX3 91 yX3_turn, Cond.instanceMethod yX3_turn, Cond.selects RX3 yX3_turn yX3_turn, Cond.code yX3_turn cX3_turn 2 none, Cond.methodLink RX3 125 yX3_roleOf, Cond.instanceMethod yX3_roleOf, Cond.selects RX3 yX3_roleOf yX3_roleOf, Cond.code yX3_roleOf cX3_roleOf 2 (some .int), Cond.methodLink RX3 133 yX3_isHeldBetter, Cond.instanceMethod yX3_isHeldBetter, Cond.selects RX3 yX3_isHeldBetter yX3_isHeldBetter, Cond.code yX3_isHeldBetter cX3_isHeldBetter 3 (some .boolean), Cond.methodLink RX3 129 yX3_turnTo]
def wsL_does_r11 : List Cond := [Cond.instanceMethod yX3_turnTo, Cond.selects RX3 yX3_turnTo yX3_turnTo, Cond.code yX3_turnTo cX3_turnTo 3 none, Cond.methodLink RX3 94 yX3_spreadStale, Cond.instanceMethod yX3_spreadStale, Cond.selects RX3 yX3_spreadStale yX3_spreadStale, Cond.code yX3_spreadStale cX3_spreadStale 3 none, Cond.methodLink RX3 97 yX3_endStorms, Cond.instanceMethod yX3_endStorms, Cond.selects RX3 yX3_endStorms yX3_endStorms, Cond.code yX3_endStorms cX3_endStorms 2 none, Cond.methodLink RX3 136 yX3_endShut, Cond.methodLink RX5 279 yX2_empty, Cond.instanceMethod yX2_empty, Cond.selects RX2 yX2_empty yX2_empty, Cond.code yX2_empty cX2_empty 4 none, Cond.methodLink RX5 282 yX2_dropOld, Cond.instanceMethod yX2_dropOld, Cond.selects RX2 yX2_dropOld yX2_dropOld, Cond.code yX2_dropOld cX2_dropOld 3 none, Cond.fieldLink RX2 15 "SwitchFloor$Tables" "heardAt" "[I", Cond.methodLink RL 49 yX5_send, Cond.instanceMethod yX5_send, Cond.selects RX5 yX5_send yX5_send]
def wsL_does_r12 : List Cond := [Cond.code yX5_send cX5_send 8 (some .int), Cond.fieldLink RX5 45 "SwitchFloor" "steps" "LSwitchFloor$Steps;", Cond.fieldLink RX5 174 "SwitchFloor$Steps" "size" "I", Cond.methodLink RX5 167 yX1_restart, Cond.instanceMethod yX1_restart, Cond.selects RX1 yX1_restart yX1_restart, Cond.initialized RX1, Cond.code yX1_restart cX1_restart 1 none, Cond.fieldLink RX1 24 "SwitchFloor$Steps" "size" "I", Cond.methodLink RX5 170 yX1_add, Cond.instanceMethod yX1_add, Cond.selects RX1 yX1_add yX1_add, Cond.code yX1_add cX1_add 5 none, Cond.fieldLink RX1 9 "SwitchFloor$Steps" "spot" "[I", Cond.fieldLink RX1 15 "SwitchFloor$Steps" "tag" "[I", Cond.fieldLink RX1 18 "SwitchFloor$Steps" "second" "[I", Cond.fieldLink RX1 21 "SwitchFloor$Steps" "hops" "[I", Cond.methodLink RX5 177 yX5_takeStep, Cond.instanceMethod yX5_takeStep, Cond.selects RX5 yX5_takeStep yX5_takeStep, Cond.code yX5_takeStep cX5_takeStep 9 (some .int), Cond.fieldLink RX5 291 "SwitchFloor$Steps" "spot" "[I", Cond.fieldLink RX5 294 "SwitchFloor$Steps" "tag" "[I", Cond.fieldLink RX5 198 "SwitchFloor$Tree" "open" "[Z"]
def wsL_does_r13 : List Cond := [Cond.methodLink RX5 239 yX5_laneLetIn, Cond.instanceMethod yX5_laneLetIn, Cond.selects RX5 yX5_laneLetIn yX5_laneLetIn, Cond.code yX5_laneLetIn cX5_laneLetIn 3 (some .int), Cond.methodLink RX5 285 yX0_laneIn, Cond.instanceMethod yX0_laneIn, Cond.selects RX0 yX0_laneIn yX0_laneIn, Cond.code yX0_laneIn cX0_laneIn 4 (some .int), Cond.methodLink RX0 22 yX0_carries, Cond.instanceMethod yX0_carries, Cond.selects RX0 yX0_carries yX0_carries, Cond.code yX0_carries cX0_carries 3 (some .boolean), Cond.methodLink RX0 18 yX0_bitOf, Cond.methodLink RX5 297 yX2_hear, Cond.instanceMethod yX2_hear, Cond.selects RX2 yX2_hear yX2_hear, Cond.code yX2_hear cX2_hear 7 none, Cond.methodLink RX2 21 yX2_indexOf, Cond.static yX2_indexOf, Cond.code yX2_indexOf cX2_indexOf 3 (some .int), Cond.methodLink RX5 207 yX2_portFor, Cond.instanceMethod yX2_portFor, Cond.selects RX2 yX2_portFor yX2_portFor, Cond.code yX2_portFor cX2_portFor 4 (some .int)]
def wsL_does_r14 : List Cond := [Cond.methodLink RX5 300 yX5_flood, Cond.instanceMethod yX5_flood, Cond.selects RX5 yX5_flood yX5_flood, Cond.code yX5_flood cX5_flood 8 (some .int), Cond.methodLink RX5 303 yX5_goOut, Cond.instanceMethod yX5_goOut, Cond.selects RX5 yX5_goOut yX5_goOut, Cond.code yX5_goOut cX5_goOut 9 (some .int), Cond.fieldLink RX5 245 "SwitchFloor$Wiring" "house" "[I", Cond.fieldLink RX5 310 "SwitchFloor$Steps" "hops" "[I", Cond.fieldLink RX5 311 "SwitchFloor$Steps" "second" "[I", Cond.methodLink RX5 288 yX0_carries, Cond.methodLink RX5 307 yX5_handOver, Cond.instanceMethod yX5_handOver, Cond.selects RX5 yX5_handOver yX5_handOver, Cond.code yX5_handOver cX5_handOver 3 (some .int), Cond.fieldLink RX5 53 "SwitchFloor" "gotFrames" "[I", Cond.fieldLink RX5 56 "SwitchFloor" "overheardFrames" "[I", Cond.methodLink RX5 248 yX0_tagOut, Cond.instanceMethod yX0_tagOut, Cond.selects RX0 yX0_tagOut yX0_tagOut, Cond.code yX0_tagOut cX0_tagOut 3 (some .int), Cond.methodLink RL 53 yX5_holds, Cond.instanceMethod yX5_holds]
def wsL_does_r15 : List Cond := [Cond.selects RX5 yX5_holds yX5_holds, Cond.code yX5_holds cX5_holds 3 (some .int), Cond.fieldLink RX5 181 "SwitchFloor$Tree" "root" "[I", Cond.fieldLink RX5 184 "SwitchFloor$Tree" "cost" "[I", Cond.fieldLink RX5 187 "SwitchFloor$Tree" "hops" "[I", Cond.fieldLink RX5 190 "SwitchFloor$Tree" "rootPort" "[I", Cond.fieldLink RX5 193 "SwitchFloor$Tables" "entries" "[I", Cond.methodLink RL 56 yX5_port, Cond.instanceMethod yX5_port, Cond.selects RX5 yX5_port yX5_port, Cond.code yX5_port cX5_port 5 (some .int), Cond.fieldLink RX5 202 "SwitchFloor$Tree" "role" "[I", Cond.methodLink RL 59 yX5_table, Cond.instanceMethod yX5_table, Cond.selects RX5 yX5_table yX5_table, Cond.code yX5_table cX5_table 4 (some .int), Cond.methodLink RL 62 yX5_got, Cond.instanceMethod yX5_got, Cond.selects RX5 yX5_got yX5_got, Cond.code yX5_got cX5_got 3 (some .int), Cond.methodLink RL 66 yX5_found, Cond.instanceMethod yX5_found, Cond.selects RX5 yX5_found yX5_found, Cond.code yX5_found cX5_found 4 (some .int)]
def wsL_does_r16 : List Cond := [Cond.fieldLink RX5 228 "SwitchFloor$Tree" "way" "[I", Cond.methodLink RX5 225 yX3_measureWays, Cond.instanceMethod yX3_measureWays, Cond.selects RX3 yX3_measureWays yX3_measureWays, Cond.code yX3_measureWays cX3_measureWays 4 none, Cond.fieldLink RX3 52 "SwitchFloor$Tree" "way" "[I", Cond.methodLink RX3 139 yX3_shorten, Cond.instanceMethod yX3_shorten, Cond.selects RX3 yX3_shorten yX3_shorten, Cond.code yX3_shorten cX3_shorten 3 none, Cond.methodLink RX5 231 yX4_isBetterName, Cond.methodLink RL 69 yX5_walk, Cond.instanceMethod yX5_walk, Cond.selects RX5 yX5_walk yX5_walk, Cond.code yX5_walk cX5_walk 8 (some .int), Cond.methodLink RX5 242 yX5_wayTold, Cond.instanceMethod yX5_wayTold, Cond.selects RX5 yX5_wayTold yX5_wayTold, Cond.code yX5_wayTold cX5_wayTold 6 (some .int)]
def wsL_does : List Cond := .codeWith yL_does cL_does 8 (some .int) [(0, 268, 269, 72), (0, 268, 275, 74), (0, 268, 281, 76)] :: ((wsL_does_r1 ++ (wsL_does_r2 ++ (wsL_does_r3 ++ (wsL_does_r4 ++ (wsL_does_r5 ++ (wsL_does_r6 ++ (wsL_does_r7 ++ (wsL_does_r8 ++ (wsL_does_r9 ++ (wsL_does_r10 ++ (wsL_does_r11 ++ (wsL_does_r12 ++ (wsL_does_r13 ++ (wsL_does_r14 ++ (wsL_does_r15 ++ wsL_does_r16))))))))))))))) ++ wsX50 ++ wsX40 ++ wsX30 ++ wsX20 ++ wsX00 ++ wsX10 ++ (vx_atS RX5 71 "java/lang/IllegalArgumentException" ["java/lang/RuntimeException", "java/lang/Exception"]).filter goodWord ++ (vx_atS RX5 90 "java/lang/IllegalStateException" ["java/lang/RuntimeException", "java/lang/Exception"]).filter goodWord ++ (vx_atS RX5 255 "java/lang/IndexOutOfBoundsException" ["java/lang/RuntimeException", "java/lang/Exception"]).filter goodWord)
def wsL_isPassable_r1 : List Cond := [Cond.methodLink RL 56 yX5_port, Cond.instanceMethod yX5_port, Cond.selects RX5 yX5_port yX5_port, Cond.initialized RX5, Cond.code yX5_port cX5_port 5 (some .int), Cond.classLink RX5 67 "java/lang/IllegalArgumentException", Cond.initialized "java/lang/IllegalArgumentException", Cond.fieldLink RX5 21 "SwitchFloor" "tree" "LSwitchFloor$Tree;", Cond.fieldLink RX5 198 "SwitchFloor$Tree" "open" "[Z", Cond.fieldLink RX5 202 "SwitchFloor$Tree" "role" "[I", Cond.fieldLink RX5 49 "SwitchFloor" "floods" "[I", Cond.methodLink RX5 63 yX5_needPort, Cond.static yX5_needPort, Cond.code yX5_needPort cX5_needPort 2 none, Cond.classLink RX5 251 "java/lang/IndexOutOfBoundsException", Cond.initialized "java/lang/IndexOutOfBoundsException", Cond.methodLink RX5 130 yX5_needSwitch, Cond.static yX5_needSwitch, Cond.code yX5_needSwitch cX5_needSwitch 1 none, Cond.methodLink RX5 78 yX5_spotOf, Cond.static yX5_spotOf, Cond.code yX5_spotOf cX5_spotOf 2 (some .int), Cond.methodLink RX5 136 yX3_isShut, Cond.instanceMethod yX3_isShut]
def wsL_isPassable_r2 : List Cond := [Cond.selects RX3 yX3_isShut yX3_isShut, Cond.initialized RX3, Cond.code yX3_isShut cX3_isShut 2 (some .boolean), Cond.fieldLink RX3 24 "SwitchFloor$Tree" "shutTill" "[I"]
def wsL_isPassable : List Cond := .code yL_isPassable cL_isPassable 3 (some .boolean) :: ((wsL_isPassable_r1 ++ wsL_isPassable_r2) ++ wsX50 ++ wsX30 ++ (vx_atS RX5 71 "java/lang/IllegalArgumentException" ["java/lang/RuntimeException", "java/lang/Exception"]).filter goodWord ++ (vx_atS RX5 255 "java/lang/IndexOutOfBoundsException" ["java/lang/RuntimeException", "java/lang/Exception"]).filter goodWord)
def wsL_isBetter : List Cond := .code yL_isBetter cL_isBetter 3 (some .boolean) :: ([])
def wsL_found_r1 : List Cond := [Cond.arrayClass .int, Cond.constant RL 86 (100000), Cond.methodLink RL 87 yL_isPassable, Cond.static yL_isPassable, Cond.initialized RL, Cond.code yL_isPassable cL_isPassable 3 (some .boolean), Cond.methodLink RL 56 yX5_port, Cond.instanceMethod yX5_port, Cond.selects RX5 yX5_port yX5_port, Cond.initialized RX5, Cond.code yX5_port cX5_port 5 (some .int), Cond.classLink RX5 67 "java/lang/IllegalArgumentException", Cond.initialized "java/lang/IllegalArgumentException", Cond.fieldLink RX5 21 "SwitchFloor" "tree" "LSwitchFloor$Tree;", Cond.fieldLink RX5 198 "SwitchFloor$Tree" "open" "[Z", Cond.fieldLink RX5 202 "SwitchFloor$Tree" "role" "[I", Cond.fieldLink RX5 49 "SwitchFloor" "floods" "[I", Cond.methodLink RX5 63 yX5_needPort, Cond.static yX5_needPort, Cond.code yX5_needPort cX5_needPort 2 none, Cond.classLink RX5 251 "java/lang/IndexOutOfBoundsException", Cond.initialized "java/lang/IndexOutOfBoundsException", Cond.methodLink RX5 130 yX5_needSwitch, Cond.static yX5_needSwitch]
def wsL_found_r2 : List Cond := [Cond.code yX5_needSwitch cX5_needSwitch 1 none, Cond.methodLink RX5 78 yX5_spotOf, Cond.static yX5_spotOf, Cond.code yX5_spotOf cX5_spotOf 2 (some .int), Cond.methodLink RX5 136 yX3_isShut, Cond.instanceMethod yX3_isShut, Cond.selects RX3 yX3_isShut yX3_isShut, Cond.initialized RX3, Cond.code yX3_isShut cX3_isShut 2 (some .boolean), Cond.fieldLink RX3 24 "SwitchFloor$Tree" "shutTill" "[I", Cond.methodLink RL 91 yL_isBetter, Cond.static yL_isBetter, Cond.code yL_isBetter cL_isBetter 3 (some .boolean)]
def wsL_found : List Cond := .code yL_found cL_found 9 (some .int) :: ((wsL_found_r1 ++ wsL_found_r2) ++ wsX50 ++ wsX30 ++ (vx_atS RX5 71 "java/lang/IllegalArgumentException" ["java/lang/RuntimeException", "java/lang/Exception"]).filter goodWord ++ (vx_atS RX5 255 "java/lang/IndexOutOfBoundsException" ["java/lang/RuntimeException", "java/lang/Exception"]).filter goodWord)
def wsL_isTree_r1 : List Cond := [Cond.methodLink RL 53 yX5_holds, Cond.instanceMethod yX5_holds, Cond.selects RX5 yX5_holds yX5_holds, Cond.initialized RX5, Cond.code yX5_holds cX5_holds 3 (some .int), Cond.classLink RX5 67 "java/lang/IllegalArgumentException", Cond.initialized "java/lang/IllegalArgumentException", Cond.fieldLink RX5 21 "SwitchFloor" "tree" "LSwitchFloor$Tree;", Cond.fieldLink RX5 181 "SwitchFloor$Tree" "root" "[I", Cond.fieldLink RX5 184 "SwitchFloor$Tree" "cost" "[I", Cond.fieldLink RX5 187 "SwitchFloor$Tree" "hops" "[I", Cond.fieldLink RX5 190 "SwitchFloor$Tree" "rootPort" "[I", Cond.fieldLink RX5 38 "SwitchFloor" "tables" "LSwitchFloor$Tables;", Cond.fieldLink RX5 193 "SwitchFloor$Tables" "entries" "[I", Cond.methodLink RX5 130 yX5_needSwitch, Cond.static yX5_needSwitch, Cond.code yX5_needSwitch cX5_needSwitch 1 none, Cond.classLink RX5 251 "java/lang/IndexOutOfBoundsException", Cond.initialized "java/lang/IndexOutOfBoundsException", Cond.methodLink RL 95 yL_found, Cond.static yL_found, Cond.initialized RL, Cond.code yL_found cL_found 9 (some .int), Cond.arrayClass .int]
def wsL_isTree_r2 : List Cond := [Cond.constant RL 86 (100000), Cond.methodLink RL 87 yL_isPassable, Cond.static yL_isPassable, Cond.code yL_isPassable cL_isPassable 3 (some .boolean), Cond.methodLink RL 56 yX5_port, Cond.instanceMethod yX5_port, Cond.selects RX5 yX5_port yX5_port, Cond.code yX5_port cX5_port 5 (some .int), Cond.fieldLink RX5 198 "SwitchFloor$Tree" "open" "[Z", Cond.fieldLink RX5 202 "SwitchFloor$Tree" "role" "[I", Cond.fieldLink RX5 49 "SwitchFloor" "floods" "[I", Cond.methodLink RX5 63 yX5_needPort, Cond.static yX5_needPort, Cond.code yX5_needPort cX5_needPort 2 none, Cond.methodLink RX5 78 yX5_spotOf, Cond.static yX5_spotOf, Cond.code yX5_spotOf cX5_spotOf 2 (some .int), Cond.methodLink RX5 136 yX3_isShut, Cond.instanceMethod yX3_isShut, Cond.selects RX3 yX3_isShut yX3_isShut, Cond.initialized RX3, Cond.code yX3_isShut cX3_isShut 2 (some .boolean), Cond.fieldLink RX3 24 "SwitchFloor$Tree" "shutTill" "[I", Cond.methodLink RL 91 yL_isBetter]
def wsL_isTree_r3 : List Cond := [Cond.static yL_isBetter, Cond.code yL_isBetter cL_isBetter 3 (some .boolean)]
def wsL_isTree : List Cond := .code yL_isTree cL_isTree 11 (some .boolean) :: ((wsL_isTree_r1 ++ (wsL_isTree_r2 ++ wsL_isTree_r3)) ++ wsX50 ++ wsX30 ++ wsX20 ++ (vx_atS RX5 71 "java/lang/IllegalArgumentException" ["java/lang/RuntimeException", "java/lang/Exception"]).filter goodWord ++ (vx_atS RX5 255 "java/lang/IndexOutOfBoundsException" ["java/lang/RuntimeException", "java/lang/Exception"]).filter goodWord)
def wsL_areAll_r1 : List Cond := [Cond.methodLink RL 56 yX5_port, Cond.instanceMethod yX5_port, Cond.selects RX5 yX5_port yX5_port, Cond.initialized RX5, Cond.code yX5_port cX5_port 5 (some .int), Cond.classLink RX5 67 "java/lang/IllegalArgumentException", Cond.initialized "java/lang/IllegalArgumentException", Cond.fieldLink RX5 21 "SwitchFloor" "tree" "LSwitchFloor$Tree;", Cond.fieldLink RX5 198 "SwitchFloor$Tree" "open" "[Z", Cond.fieldLink RX5 202 "SwitchFloor$Tree" "role" "[I", Cond.fieldLink RX5 49 "SwitchFloor" "floods" "[I", Cond.methodLink RX5 63 yX5_needPort, Cond.static yX5_needPort, Cond.code yX5_needPort cX5_needPort 2 none, Cond.classLink RX5 251 "java/lang/IndexOutOfBoundsException", Cond.initialized "java/lang/IndexOutOfBoundsException", Cond.methodLink RX5 130 yX5_needSwitch, Cond.static yX5_needSwitch, Cond.code yX5_needSwitch cX5_needSwitch 1 none, Cond.methodLink RX5 78 yX5_spotOf, Cond.static yX5_spotOf, Cond.code yX5_spotOf cX5_spotOf 2 (some .int), Cond.methodLink RX5 136 yX3_isShut, Cond.instanceMethod yX3_isShut]
def wsL_areAll_r2 : List Cond := [Cond.selects RX3 yX3_isShut yX3_isShut, Cond.initialized RX3, Cond.code yX3_isShut cX3_isShut 2 (some .boolean), Cond.fieldLink RX3 24 "SwitchFloor$Tree" "shutTill" "[I", Cond.methodLink RL 59 yX5_table, Cond.instanceMethod yX5_table, Cond.selects RX5 yX5_table yX5_table, Cond.code yX5_table cX5_table 4 (some .int), Cond.fieldLink RX5 38 "SwitchFloor" "tables" "LSwitchFloor$Tables;", Cond.methodLink RX5 148 yX5_needLane, Cond.static yX5_needLane, Cond.code yX5_needLane cX5_needLane 1 none, Cond.methodLink RX5 113 yX5_needHouse, Cond.static yX5_needHouse, Cond.code yX5_needHouse cX5_needHouse 1 none, Cond.methodLink RX5 207 yX2_portFor, Cond.instanceMethod yX2_portFor, Cond.selects RX2 yX2_portFor yX2_portFor, Cond.initialized RX2, Cond.code yX2_portFor cX2_portFor 4 (some .int), Cond.fieldLink RX2 11 "SwitchFloor$Tables" "heardBy" "[I", Cond.methodLink RX2 21 yX2_indexOf, Cond.static yX2_indexOf, Cond.code yX2_indexOf cX2_indexOf 3 (some .int)]
def wsL_areAll_r3 : List Cond := [Cond.methodLink RL 53 yX5_holds, Cond.instanceMethod yX5_holds, Cond.selects RX5 yX5_holds yX5_holds, Cond.code yX5_holds cX5_holds 3 (some .int), Cond.fieldLink RX5 181 "SwitchFloor$Tree" "root" "[I", Cond.fieldLink RX5 184 "SwitchFloor$Tree" "cost" "[I", Cond.fieldLink RX5 187 "SwitchFloor$Tree" "hops" "[I", Cond.fieldLink RX5 190 "SwitchFloor$Tree" "rootPort" "[I", Cond.fieldLink RX5 193 "SwitchFloor$Tables" "entries" "[I", Cond.methodLink RL 66 yX5_found, Cond.instanceMethod yX5_found, Cond.selects RX5 yX5_found yX5_found, Cond.code yX5_found cX5_found 4 (some .int), Cond.fieldLink RX5 228 "SwitchFloor$Tree" "way" "[I", Cond.fieldLink RX5 12 "SwitchFloor" "wiring" "LSwitchFloor$Wiring;", Cond.methodLink RX5 225 yX3_measureWays, Cond.instanceMethod yX3_measureWays, Cond.selects RX3 yX3_measureWays yX3_measureWays, Cond.code yX3_measureWays cX3_measureWays 4 none, Cond.fieldLink RX3 52 "SwitchFloor$Tree" "way" "[I", Cond.fieldLink RX3 55 "SwitchFloor$Tree" "wiring" "LSwitchFloor$Wiring;", Cond.fieldLink RX3 63 "SwitchFloor$Wiring" "peer" "[I", Cond.fieldLink RX3 124 "SwitchFloor$Wiring" "cost" "[I", Cond.methodLink RX3 100 yX3_isJoined]
def wsL_areAll_r4 : List Cond := [Cond.instanceMethod yX3_isJoined, Cond.selects RX3 yX3_isJoined yX3_isJoined, Cond.code yX3_isJoined cX3_isJoined 3 (some .boolean), Cond.methodLink RX3 68 yX3_isShut, Cond.methodLink RX3 139 yX3_shorten, Cond.instanceMethod yX3_shorten, Cond.selects RX3 yX3_shorten yX3_shorten, Cond.code yX3_shorten cX3_shorten 3 none, Cond.methodLink RX5 231 yX4_isBetterName, Cond.instanceMethod yX4_isBetterName, Cond.selects RX4 yX4_isBetterName yX4_isBetterName, Cond.initialized RX4, Cond.code yX4_isBetterName cX4_isBetterName 3 (some .boolean), Cond.fieldLink RX4 27 "SwitchFloor$Wiring" "rank" "[I", Cond.methodLink RL 95 yL_found, Cond.static yL_found, Cond.initialized RL, Cond.code yL_found cL_found 9 (some .int), Cond.arrayClass .int, Cond.constant RL 86 (100000), Cond.methodLink RL 87 yL_isPassable, Cond.static yL_isPassable, Cond.code yL_isPassable cL_isPassable 3 (some .boolean), Cond.methodLink RL 91 yL_isBetter]
def wsL_areAll_r5 : List Cond := [Cond.static yL_isBetter, Cond.code yL_isBetter cL_isBetter 3 (some .boolean), Cond.methodLink RL 62 yX5_got, Cond.instanceMethod yX5_got, Cond.selects RX5 yX5_got yX5_got, Cond.code yX5_got cX5_got 3 (some .int), Cond.fieldLink RX5 56 "SwitchFloor" "overheardFrames" "[I", Cond.fieldLink RX5 53 "SwitchFloor" "gotFrames" "[I"]
def wsL_areAll : List Cond := .code yL_areAll cL_areAll 14 (some .boolean) :: ((wsL_areAll_r1 ++ (wsL_areAll_r2 ++ (wsL_areAll_r3 ++ (wsL_areAll_r4 ++ wsL_areAll_r5)))) ++ wsX50 ++ wsX30 ++ wsX20 ++ wsX40 ++ (vx_atS RX5 71 "java/lang/IllegalArgumentException" ["java/lang/RuntimeException", "java/lang/Exception"]).filter goodWord ++ (vx_atS RX5 255 "java/lang/IndexOutOfBoundsException" ["java/lang/RuntimeException", "java/lang/Exception"]).filter goodWord)
def wsL_isPort_r1 : List Cond := [Cond.methodLink RL 98 yL_does, Cond.static yL_does, Cond.initialized RL, Cond.codeWith yL_does cL_does 8 (some .int) [(0, 268, 269, 72), (0, 268, 275, 74), (0, 268, 281, 76)], Cond.classLink RL 72 "java/lang/IndexOutOfBoundsException", Cond.classLink RL 74 "java/lang/IllegalArgumentException", Cond.classLink RL 76 "java/lang/IllegalStateException", Cond.methodLink RL 8 yX5_wire, Cond.instanceMethod yX5_wire, Cond.selects RX5 yX5_wire yX5_wire, Cond.initialized RX5, Cond.code yX5_wire cX5_wire 8 (some .int), Cond.classLink RX5 67 "java/lang/IllegalArgumentException", Cond.initialized "java/lang/IllegalArgumentException", Cond.classLink RX5 86 "java/lang/IllegalStateException", Cond.initialized "java/lang/IllegalStateException", Cond.fieldLink RX5 12 "SwitchFloor" "wiring" "LSwitchFloor$Wiring;", Cond.fieldLink RX5 94 "SwitchFloor$Wiring" "wires" "I", Cond.methodLink RX5 63 yX5_needPort, Cond.static yX5_needPort, Cond.code yX5_needPort cX5_needPort 2 none, Cond.classLink RX5 251 "java/lang/IndexOutOfBoundsException", Cond.initialized "java/lang/IndexOutOfBoundsException", Cond.methodLink RX5 130 yX5_needSwitch]
def wsL_isPort_r2 : List Cond := [Cond.static yX5_needSwitch, Cond.code yX5_needSwitch cX5_needSwitch 1 none, Cond.methodLink RX5 74 yX5_needWithin, Cond.static yX5_needWithin, Cond.code yX5_needWithin cX5_needWithin 3 none, Cond.methodLink RX5 78 yX5_spotOf, Cond.static yX5_spotOf, Cond.code yX5_spotOf cX5_spotOf 2 (some .int), Cond.methodLink RX5 82 yX4_isBare, Cond.instanceMethod yX4_isBare, Cond.selects RX4 yX4_isBare yX4_isBare, Cond.initialized RX4, Cond.code yX4_isBare cX4_isBare 2 (some .boolean), Cond.fieldLink RX4 9 "SwitchFloor$Wiring" "peer" "[I", Cond.fieldLink RX4 18 "SwitchFloor$Wiring" "house" "[I", Cond.methodLink RX5 91 yX4_putWire, Cond.instanceMethod yX4_putWire, Cond.selects RX4 yX4_putWire yX4_putWire, Cond.code yX4_putWire cX4_putWire 4 none, Cond.fieldLink RX4 15 "SwitchFloor$Wiring" "cost" "[I", Cond.fieldLink RX4 30 "SwitchFloor$Wiring" "wires" "I", Cond.methodLink RL 14 yX5_free, Cond.instanceMethod yX5_free, Cond.selects RX5 yX5_free yX5_free]
def wsL_isPort_r3 : List Cond := [Cond.code yX5_free cX5_free 5 (some .int), Cond.fieldLink RX5 99 "SwitchFloor$Wiring" "peer" "[I", Cond.methodLink RX5 102 yX5_dropUse, Cond.instanceMethod yX5_dropUse, Cond.selects RX5 yX5_dropUse yX5_dropUse, Cond.code yX5_dropUse cX5_dropUse 2 none, Cond.fieldLink RX5 21 "SwitchFloor" "tree" "LSwitchFloor$Tree;", Cond.fieldLink RX5 38 "SwitchFloor" "tables" "LSwitchFloor$Tables;", Cond.methodLink RX5 264 yX3_close, Cond.instanceMethod yX3_close, Cond.selects RX3 yX3_close yX3_close, Cond.initialized RX3, Cond.code yX3_close cX3_close 2 none, Cond.fieldLink RX3 27 "SwitchFloor$Tree" "open" "[Z", Cond.fieldLink RX3 31 "SwitchFloor$Tree" "role" "[I", Cond.fieldLink RX3 34 "SwitchFloor$Tree" "waited" "[I", Cond.methodLink RX5 267 yX2_forgetPort, Cond.instanceMethod yX2_forgetPort, Cond.selects RX2 yX2_forgetPort yX2_forgetPort, Cond.initialized RX2, Cond.code yX2_forgetPort cX2_forgetPort 4 none, Cond.fieldLink RX2 11 "SwitchFloor$Tables" "heardBy" "[I", Cond.methodLink RX2 25 yX2_drop, Cond.instanceMethod yX2_drop]
def wsL_isPort_r4 : List Cond := [Cond.selects RX2 yX2_drop yX2_drop, Cond.code yX2_drop cX2_drop 2 none, Cond.fieldLink RX2 18 "SwitchFloor$Tables" "entries" "[I", Cond.methodLink RX5 106 yX4_takeHouse, Cond.instanceMethod yX4_takeHouse, Cond.selects RX4 yX4_takeHouse yX4_takeHouse, Cond.code yX4_takeHouse cX4_takeHouse 3 (some .int), Cond.fieldLink RX4 24 "SwitchFloor$Wiring" "spotOfHouse" "[I", Cond.fieldLink RX4 34 "SwitchFloor$Wiring" "houses" "I", Cond.methodLink RX5 110 yX4_takeWire, Cond.instanceMethod yX4_takeWire, Cond.selects RX4 yX4_takeWire yX4_takeWire, Cond.code yX4_takeWire cX4_takeWire 3 none, Cond.methodLink RL 18 yX5_house, Cond.instanceMethod yX5_house, Cond.selects RX5 yX5_house yX5_house, Cond.code yX5_house cX5_house 5 (some .int), Cond.fieldLink RX5 116 "SwitchFloor$Wiring" "spotOfHouse" "[I", Cond.fieldLink RX5 127 "SwitchFloor$Wiring" "houses" "I", Cond.methodLink RX5 113 yX5_needHouse, Cond.static yX5_needHouse, Cond.code yX5_needHouse cX5_needHouse 1 none, Cond.methodLink RX5 121 yX4_putHouse, Cond.instanceMethod yX4_putHouse]
def wsL_isPort_r5 : List Cond := [Cond.selects RX4 yX4_putHouse yX4_putHouse, Cond.code yX4_putHouse cX4_putHouse 3 none, Cond.methodLink RX5 124 yX3_openForHouse, Cond.instanceMethod yX3_openForHouse, Cond.selects RX3 yX3_openForHouse yX3_openForHouse, Cond.code yX3_openForHouse cX3_openForHouse 2 none, Cond.fieldLink RX3 55 "SwitchFloor$Tree" "wiring" "LSwitchFloor$Wiring;", Cond.fieldLink RX3 72 "SwitchFloor$Wiring" "house" "[I", Cond.methodLink RX3 68 yX3_isShut, Cond.instanceMethod yX3_isShut, Cond.selects RX3 yX3_isShut yX3_isShut, Cond.code yX3_isShut cX3_isShut 2 (some .boolean), Cond.fieldLink RX3 24 "SwitchFloor$Tree" "shutTill" "[I", Cond.methodLink RL 22 yX5_rank, Cond.instanceMethod yX5_rank, Cond.selects RX5 yX5_rank yX5_rank, Cond.code yX5_rank cX5_rank 4 (some .int), Cond.fieldLink RX5 133 "SwitchFloor$Wiring" "rank" "[I", Cond.methodLink RL 25 yX5_shut, Cond.instanceMethod yX5_shut, Cond.selects RX5 yX5_shut yX5_shut, Cond.code yX5_shut cX5_shut 4 (some .boolean), Cond.methodLink RX5 136 yX3_isShut, Cond.methodLink RX5 139 yX3_endShut]
def wsL_isPort_r6 : List Cond := [Cond.instanceMethod yX3_endShut, Cond.selects RX3 yX3_endShut yX3_endShut, Cond.code yX3_endShut cX3_endShut 2 none, Cond.methodLink RX3 79 yX3_openForHouse, Cond.methodLink RX5 142 yX5_shutUntil, Cond.instanceMethod yX5_shutUntil, Cond.selects RX5 yX5_shutUntil yX5_shutUntil, Cond.code yX5_shutUntil cX5_shutUntil 3 none, Cond.methodLink RX5 270 yX3_beginShut, Cond.instanceMethod yX3_beginShut, Cond.selects RX3 yX3_beginShut yX3_beginShut, Cond.code yX3_beginShut cX3_beginShut 3 none, Cond.methodLink RX3 75 yX3_close, Cond.methodLink RL 29 yX5_guard, Cond.instanceMethod yX5_guard, Cond.selects RX5 yX5_guard yX5_guard, Cond.code yX5_guard cX5_guard 6 (some .int), Cond.fieldLink RX5 145 "SwitchFloor$Wiring" "guard" "[I", Cond.methodLink RL 32 yL_plained, Cond.static yL_plained, Cond.code yL_plained cL_plained 4 (some .int), Cond.methodLink RL 78 yX5_plain, Cond.instanceMethod yX5_plain, Cond.selects RX5 yX5_plain yX5_plain]
def wsL_isPort_r7 : List Cond := [Cond.code yX5_plain cX5_plain 4 none, Cond.fieldLink RX5 31 "SwitchFloor" "lanes" "LSwitchFloor$Lanes;", Cond.methodLink RX5 148 yX5_needLane, Cond.static yX5_needLane, Cond.code yX5_needLane cX5_needLane 1 none, Cond.methodLink RX5 151 yX0_bitOf, Cond.static yX0_bitOf, Cond.initialized RX0, Cond.code yX0_bitOf cX0_bitOf 1 (some .int), Cond.methodLink RX5 154 yX0_setUp, Cond.instanceMethod yX0_setUp, Cond.selects RX0 yX0_setUp yX0_setUp, Cond.code yX0_setUp cX0_setUp 4 none, Cond.fieldLink RX0 9 "SwitchFloor$Lanes" "carried" "[I", Cond.fieldLink RX0 15 "SwitchFloor$Lanes" "untagged" "[I", Cond.methodLink RL 38 yL_trunked, Cond.static yL_trunked, Cond.code yL_trunked cL_trunked 5 (some .int), Cond.methodLink RL 82 yX5_trunk, Cond.instanceMethod yX5_trunk, Cond.selects RX5 yX5_trunk yX5_trunk, Cond.code yX5_trunk cX5_trunk 5 none, Cond.methodLink RL 42 yX5_limit, Cond.instanceMethod yX5_limit]
def wsL_isPort_r8 : List Cond := [Cond.selects RX5 yX5_limit yX5_limit, Cond.code yX5_limit cX5_limit 3 (some .int), Cond.fieldLink RX5 59 "SwitchFloor" "floodLimit" "I", Cond.methodLink RL 46 yX5_beat, Cond.instanceMethod yX5_beat, Cond.selects RX5 yX5_beat yX5_beat, Cond.code yX5_beat cX5_beat 3 (some .int), Cond.fieldLink RX5 160 "SwitchFloor$Tree" "beats" "I", Cond.methodLink RX5 157 yX5_passBeat, Cond.instanceMethod yX5_passBeat, Cond.selects RX5 yX5_passBeat yX5_passBeat, Cond.code yX5_passBeat cX5_passBeat 2 none, Cond.fieldLink RX5 49 "SwitchFloor" "floods" "[I", Cond.fieldLink RX5 273 "SwitchFloor$Tree" "caught" "[Z", Cond.fieldLink RX5 276 "SwitchFloor$Tree" "stale" "[Z", Cond.methodLink RX5 214 yX3_pass, Cond.instanceMethod yX3_pass, Cond.selects RX3 yX3_pass yX3_pass, Cond.code yX3_pass cX3_pass 2 none, Cond.fieldLink RX3 59 "SwitchFloor$Tree" "beats" "I", Cond.fieldLink RX3 49 "SwitchFloor$Tree" "stale" "[Z", Cond.methodLink RX3 82 yX3_tell, Cond.instanceMethod yX3_tell, Cond.selects RX3 yX3_tell yX3_tell]
def wsL_isPort_r9 : List Cond := [Cond.code yX3_tell cX3_tell 3 none, Cond.fieldLink RX3 37 "SwitchFloor$Tree" "toldRoot" "[I", Cond.fieldLink RX3 63 "SwitchFloor$Wiring" "peer" "[I", Cond.fieldLink RX3 9 "SwitchFloor$Tree" "root" "[I", Cond.fieldLink RX3 40 "SwitchFloor$Tree" "toldCost" "[I", Cond.fieldLink RX3 15 "SwitchFloor$Tree" "cost" "[I", Cond.fieldLink RX3 43 "SwitchFloor$Tree" "toldHops" "[I", Cond.fieldLink RX3 18 "SwitchFloor$Tree" "hops" "[I", Cond.methodLink RX3 100 yX3_isJoined, Cond.instanceMethod yX3_isJoined, Cond.selects RX3 yX3_isJoined yX3_isJoined, Cond.code yX3_isJoined cX3_isJoined 3 (some .boolean), Cond.methodLink RX3 85 yX3_guardForHouses, Cond.instanceMethod yX3_guardForHouses, Cond.selects RX3 yX3_guardForHouses yX3_guardForHouses, Cond.code yX3_guardForHouses cX3_guardForHouses 2 none, Cond.fieldLink RX3 46 "SwitchFloor$Tree" "caught" "[Z", Cond.fieldLink RX3 103 "SwitchFloor$Wiring" "guard" "[I", Cond.methodLink RX3 106 yX3_beginShut, Cond.methodLink RX3 88 yX3_takeBest, Cond.instanceMethod yX3_takeBest, Cond.selects RX3 yX3_takeBest yX3_takeBest, Cond.code yX3_takeBest cX3_takeBest 5 none, Cond.fieldLink RX3 21 "SwitchFloor$Tree" "rootPort" "[I"]
def wsL_isPort_r10 : List Cond := [Cond.methodLink RX3 114 yX3_offer, Cond.instanceMethod yX3_offer, Cond.selects RX3 yX3_offer yX3_offer, Cond.code yX3_offer cX3_offer 3 none, Cond.fieldLink RX3 124 "SwitchFloor$Wiring" "cost" "[I", Cond.methodLink RX3 121 yX3_isBetterThanHeld, Cond.instanceMethod yX3_isBetterThanHeld, Cond.selects RX3 yX3_isBetterThanHeld yX3_isBetterThanHeld, Cond.code yX3_isBetterThanHeld cX3_isBetterThanHeld 6 (some .boolean), Cond.methodLink RX3 117 yX4_isBetterName, Cond.instanceMethod yX4_isBetterName, Cond.selects RX4 yX4_isBetterName yX4_isBetterName, Cond.code yX4_isBetterName cX4_isBetterName 3 (some .boolean), Cond.fieldLink RX4 27 "SwitchFloor$Wiring" "rank" "[I", Cond.methodLink RX3 91 yX3_turn, Cond.instanceMethod yX3_turn, Cond.selects RX3 yX3_turn yX3_turn, Cond.code yX3_turn cX3_turn 2 none, Cond.methodLink RX3 125 yX3_roleOf, Cond.instanceMethod yX3_roleOf, Cond.selects RX3 yX3_roleOf yX3_roleOf, Cond.code yX3_roleOf cX3_roleOf 2 (some .int), Cond.methodLink RX3 133 yX3_isHeldBetter, Cond.instanceMethod yX3_isHeldBetter]
def wsL_isPort_r11 : List Cond := [Cond.selects RX3 yX3_isHeldBetter yX3_isHeldBetter, Cond.code yX3_isHeldBetter cX3_isHeldBetter 3 (some .boolean), Cond.methodLink RX3 129 yX3_turnTo, Cond.instanceMethod yX3_turnTo, Cond.selects RX3 yX3_turnTo yX3_turnTo, Cond.code yX3_turnTo cX3_turnTo 3 none, Cond.methodLink RX3 94 yX3_spreadStale, Cond.instanceMethod yX3_spreadStale, Cond.selects RX3 yX3_spreadStale yX3_spreadStale, Cond.code yX3_spreadStale cX3_spreadStale 3 none, Cond.methodLink RX3 97 yX3_endStorms, Cond.instanceMethod yX3_endStorms, Cond.selects RX3 yX3_endStorms yX3_endStorms, Cond.code yX3_endStorms cX3_endStorms 2 none, Cond.methodLink RX3 136 yX3_endShut, Cond.methodLink RX5 279 yX2_empty, Cond.instanceMethod yX2_empty, Cond.selects RX2 yX2_empty yX2_empty, Cond.code yX2_empty cX2_empty 4 none, Cond.methodLink RX5 282 yX2_dropOld, Cond.instanceMethod yX2_dropOld, Cond.selects RX2 yX2_dropOld yX2_dropOld, Cond.code yX2_dropOld cX2_dropOld 3 none, Cond.fieldLink RX2 15 "SwitchFloor$Tables" "heardAt" "[I"]
def wsL_isPort_r12 : List Cond := [Cond.methodLink RL 49 yX5_send, Cond.instanceMethod yX5_send, Cond.selects RX5 yX5_send yX5_send, Cond.code yX5_send cX5_send 8 (some .int), Cond.fieldLink RX5 45 "SwitchFloor" "steps" "LSwitchFloor$Steps;", Cond.fieldLink RX5 174 "SwitchFloor$Steps" "size" "I", Cond.methodLink RX5 167 yX1_restart, Cond.instanceMethod yX1_restart, Cond.selects RX1 yX1_restart yX1_restart, Cond.initialized RX1, Cond.code yX1_restart cX1_restart 1 none, Cond.fieldLink RX1 24 "SwitchFloor$Steps" "size" "I", Cond.methodLink RX5 170 yX1_add, Cond.instanceMethod yX1_add, Cond.selects RX1 yX1_add yX1_add, Cond.code yX1_add cX1_add 5 none, Cond.fieldLink RX1 9 "SwitchFloor$Steps" "spot" "[I", Cond.fieldLink RX1 15 "SwitchFloor$Steps" "tag" "[I", Cond.fieldLink RX1 18 "SwitchFloor$Steps" "second" "[I", Cond.fieldLink RX1 21 "SwitchFloor$Steps" "hops" "[I", Cond.methodLink RX5 177 yX5_takeStep, Cond.instanceMethod yX5_takeStep, Cond.selects RX5 yX5_takeStep yX5_takeStep, Cond.code yX5_takeStep cX5_takeStep 9 (some .int)]
def wsL_isPort_r13 : List Cond := [Cond.fieldLink RX5 291 "SwitchFloor$Steps" "spot" "[I", Cond.fieldLink RX5 294 "SwitchFloor$Steps" "tag" "[I", Cond.fieldLink RX5 198 "SwitchFloor$Tree" "open" "[Z", Cond.methodLink RX5 239 yX5_laneLetIn, Cond.instanceMethod yX5_laneLetIn, Cond.selects RX5 yX5_laneLetIn yX5_laneLetIn, Cond.code yX5_laneLetIn cX5_laneLetIn 3 (some .int), Cond.methodLink RX5 285 yX0_laneIn, Cond.instanceMethod yX0_laneIn, Cond.selects RX0 yX0_laneIn yX0_laneIn, Cond.code yX0_laneIn cX0_laneIn 4 (some .int), Cond.methodLink RX0 22 yX0_carries, Cond.instanceMethod yX0_carries, Cond.selects RX0 yX0_carries yX0_carries, Cond.code yX0_carries cX0_carries 3 (some .boolean), Cond.methodLink RX0 18 yX0_bitOf, Cond.methodLink RX5 297 yX2_hear, Cond.instanceMethod yX2_hear, Cond.selects RX2 yX2_hear yX2_hear, Cond.code yX2_hear cX2_hear 7 none, Cond.methodLink RX2 21 yX2_indexOf, Cond.static yX2_indexOf, Cond.code yX2_indexOf cX2_indexOf 3 (some .int), Cond.methodLink RX5 207 yX2_portFor]
def wsL_isPort_r14 : List Cond := [Cond.instanceMethod yX2_portFor, Cond.selects RX2 yX2_portFor yX2_portFor, Cond.code yX2_portFor cX2_portFor 4 (some .int), Cond.methodLink RX5 300 yX5_flood, Cond.instanceMethod yX5_flood, Cond.selects RX5 yX5_flood yX5_flood, Cond.code yX5_flood cX5_flood 8 (some .int), Cond.methodLink RX5 303 yX5_goOut, Cond.instanceMethod yX5_goOut, Cond.selects RX5 yX5_goOut yX5_goOut, Cond.code yX5_goOut cX5_goOut 9 (some .int), Cond.fieldLink RX5 245 "SwitchFloor$Wiring" "house" "[I", Cond.fieldLink RX5 310 "SwitchFloor$Steps" "hops" "[I", Cond.fieldLink RX5 311 "SwitchFloor$Steps" "second" "[I", Cond.methodLink RX5 288 yX0_carries, Cond.methodLink RX5 307 yX5_handOver, Cond.instanceMethod yX5_handOver, Cond.selects RX5 yX5_handOver yX5_handOver, Cond.code yX5_handOver cX5_handOver 3 (some .int), Cond.fieldLink RX5 53 "SwitchFloor" "gotFrames" "[I", Cond.fieldLink RX5 56 "SwitchFloor" "overheardFrames" "[I", Cond.methodLink RX5 248 yX0_tagOut, Cond.instanceMethod yX0_tagOut, Cond.selects RX0 yX0_tagOut yX0_tagOut]
def wsL_isPort_r15 : List Cond := [Cond.code yX0_tagOut cX0_tagOut 3 (some .int), Cond.methodLink RL 53 yX5_holds, Cond.instanceMethod yX5_holds, Cond.selects RX5 yX5_holds yX5_holds, Cond.code yX5_holds cX5_holds 3 (some .int), Cond.fieldLink RX5 181 "SwitchFloor$Tree" "root" "[I", Cond.fieldLink RX5 184 "SwitchFloor$Tree" "cost" "[I", Cond.fieldLink RX5 187 "SwitchFloor$Tree" "hops" "[I", Cond.fieldLink RX5 190 "SwitchFloor$Tree" "rootPort" "[I", Cond.fieldLink RX5 193 "SwitchFloor$Tables" "entries" "[I", Cond.methodLink RL 56 yX5_port, Cond.instanceMethod yX5_port, Cond.selects RX5 yX5_port yX5_port, Cond.code yX5_port cX5_port 5 (some .int), Cond.fieldLink RX5 202 "SwitchFloor$Tree" "role" "[I", Cond.methodLink RL 59 yX5_table, Cond.instanceMethod yX5_table, Cond.selects RX5 yX5_table yX5_table, Cond.code yX5_table cX5_table 4 (some .int), Cond.methodLink RL 62 yX5_got, Cond.instanceMethod yX5_got, Cond.selects RX5 yX5_got yX5_got, Cond.code yX5_got cX5_got 3 (some .int), Cond.methodLink RL 66 yX5_found]
def wsL_isPort_r16 : List Cond := [Cond.instanceMethod yX5_found, Cond.selects RX5 yX5_found yX5_found, Cond.code yX5_found cX5_found 4 (some .int), Cond.fieldLink RX5 228 "SwitchFloor$Tree" "way" "[I", Cond.methodLink RX5 225 yX3_measureWays, Cond.instanceMethod yX3_measureWays, Cond.selects RX3 yX3_measureWays yX3_measureWays, Cond.code yX3_measureWays cX3_measureWays 4 none, Cond.fieldLink RX3 52 "SwitchFloor$Tree" "way" "[I", Cond.methodLink RX3 139 yX3_shorten, Cond.instanceMethod yX3_shorten, Cond.selects RX3 yX3_shorten yX3_shorten, Cond.code yX3_shorten cX3_shorten 3 none, Cond.methodLink RX5 231 yX4_isBetterName, Cond.methodLink RL 69 yX5_walk, Cond.instanceMethod yX5_walk, Cond.selects RX5 yX5_walk yX5_walk, Cond.code yX5_walk cX5_walk 8 (some .int), Cond.methodLink RX5 242 yX5_wayTold, Cond.instanceMethod yX5_wayTold, Cond.selects RX5 yX5_wayTold yX5_wayTold, Cond.code yX5_wayTold cX5_wayTold 6 (some .int)]
def wsL_isPort : List Cond := .code yL_isPort cL_isPort 14 (some .boolean) :: ((wsL_isPort_r1 ++ (wsL_isPort_r2 ++ (wsL_isPort_r3 ++ (wsL_isPort_r4 ++ (wsL_isPort_r5 ++ (wsL_isPort_r6 ++ (wsL_isPort_r7 ++ (wsL_isPort_r8 ++ (wsL_isPort_r9 ++ (wsL_isPort_r10 ++ (wsL_isPort_r11 ++ (wsL_isPort_r12 ++ (wsL_isPort_r13 ++ (wsL_isPort_r14 ++ (wsL_isPort_r15 ++ wsL_isPort_r16))))))))))))))) ++ wsX50 ++ wsX40 ++ wsX30 ++ wsX20 ++ wsX00 ++ wsX10 ++ (vx_atS RX5 71 "java/lang/IllegalArgumentException" ["java/lang/RuntimeException", "java/lang/Exception"]).filter goodWord ++ (vx_atS RX5 90 "java/lang/IllegalStateException" ["java/lang/RuntimeException", "java/lang/Exception"]).filter goodWord ++ (vx_atS RX5 255 "java/lang/IndexOutOfBoundsException" ["java/lang/RuntimeException", "java/lang/Exception"]).filter goodWord)
def wsL_isSent_r1 : List Cond := [Cond.methodLink RL 98 yL_does, Cond.static yL_does, Cond.initialized RL, Cond.codeWith yL_does cL_does 8 (some .int) [(0, 268, 269, 72), (0, 268, 275, 74), (0, 268, 281, 76)], Cond.classLink RL 72 "java/lang/IndexOutOfBoundsException", Cond.classLink RL 74 "java/lang/IllegalArgumentException", Cond.classLink RL 76 "java/lang/IllegalStateException", Cond.methodLink RL 8 yX5_wire, Cond.instanceMethod yX5_wire, Cond.selects RX5 yX5_wire yX5_wire, Cond.initialized RX5, Cond.code yX5_wire cX5_wire 8 (some .int), Cond.classLink RX5 67 "java/lang/IllegalArgumentException", Cond.initialized "java/lang/IllegalArgumentException", Cond.classLink RX5 86 "java/lang/IllegalStateException", Cond.initialized "java/lang/IllegalStateException", Cond.fieldLink RX5 12 "SwitchFloor" "wiring" "LSwitchFloor$Wiring;", Cond.fieldLink RX5 94 "SwitchFloor$Wiring" "wires" "I", Cond.methodLink RX5 63 yX5_needPort, Cond.static yX5_needPort, Cond.code yX5_needPort cX5_needPort 2 none, Cond.classLink RX5 251 "java/lang/IndexOutOfBoundsException", Cond.initialized "java/lang/IndexOutOfBoundsException", Cond.methodLink RX5 130 yX5_needSwitch]
def wsL_isSent_r2 : List Cond := [Cond.static yX5_needSwitch, Cond.code yX5_needSwitch cX5_needSwitch 1 none, Cond.methodLink RX5 74 yX5_needWithin, Cond.static yX5_needWithin, Cond.code yX5_needWithin cX5_needWithin 3 none, Cond.methodLink RX5 78 yX5_spotOf, Cond.static yX5_spotOf, Cond.code yX5_spotOf cX5_spotOf 2 (some .int), Cond.methodLink RX5 82 yX4_isBare, Cond.instanceMethod yX4_isBare, Cond.selects RX4 yX4_isBare yX4_isBare, Cond.initialized RX4, Cond.code yX4_isBare cX4_isBare 2 (some .boolean), Cond.fieldLink RX4 9 "SwitchFloor$Wiring" "peer" "[I", Cond.fieldLink RX4 18 "SwitchFloor$Wiring" "house" "[I", Cond.methodLink RX5 91 yX4_putWire, Cond.instanceMethod yX4_putWire, Cond.selects RX4 yX4_putWire yX4_putWire, Cond.code yX4_putWire cX4_putWire 4 none, Cond.fieldLink RX4 15 "SwitchFloor$Wiring" "cost" "[I", Cond.fieldLink RX4 30 "SwitchFloor$Wiring" "wires" "I", Cond.methodLink RL 14 yX5_free, Cond.instanceMethod yX5_free, Cond.selects RX5 yX5_free yX5_free]
def wsL_isSent_r3 : List Cond := [Cond.code yX5_free cX5_free 5 (some .int), Cond.fieldLink RX5 99 "SwitchFloor$Wiring" "peer" "[I", Cond.methodLink RX5 102 yX5_dropUse, Cond.instanceMethod yX5_dropUse, Cond.selects RX5 yX5_dropUse yX5_dropUse, Cond.code yX5_dropUse cX5_dropUse 2 none, Cond.fieldLink RX5 21 "SwitchFloor" "tree" "LSwitchFloor$Tree;", Cond.fieldLink RX5 38 "SwitchFloor" "tables" "LSwitchFloor$Tables;", Cond.methodLink RX5 264 yX3_close, Cond.instanceMethod yX3_close, Cond.selects RX3 yX3_close yX3_close, Cond.initialized RX3, Cond.code yX3_close cX3_close 2 none, Cond.fieldLink RX3 27 "SwitchFloor$Tree" "open" "[Z", Cond.fieldLink RX3 31 "SwitchFloor$Tree" "role" "[I", Cond.fieldLink RX3 34 "SwitchFloor$Tree" "waited" "[I", Cond.methodLink RX5 267 yX2_forgetPort, Cond.instanceMethod yX2_forgetPort, Cond.selects RX2 yX2_forgetPort yX2_forgetPort, Cond.initialized RX2, Cond.code yX2_forgetPort cX2_forgetPort 4 none, Cond.fieldLink RX2 11 "SwitchFloor$Tables" "heardBy" "[I", Cond.methodLink RX2 25 yX2_drop, Cond.instanceMethod yX2_drop]
def wsL_isSent_r4 : List Cond := [Cond.selects RX2 yX2_drop yX2_drop, Cond.code yX2_drop cX2_drop 2 none, Cond.fieldLink RX2 18 "SwitchFloor$Tables" "entries" "[I", Cond.methodLink RX5 106 yX4_takeHouse, Cond.instanceMethod yX4_takeHouse, Cond.selects RX4 yX4_takeHouse yX4_takeHouse, Cond.code yX4_takeHouse cX4_takeHouse 3 (some .int), Cond.fieldLink RX4 24 "SwitchFloor$Wiring" "spotOfHouse" "[I", Cond.fieldLink RX4 34 "SwitchFloor$Wiring" "houses" "I", Cond.methodLink RX5 110 yX4_takeWire, Cond.instanceMethod yX4_takeWire, Cond.selects RX4 yX4_takeWire yX4_takeWire, Cond.code yX4_takeWire cX4_takeWire 3 none, Cond.methodLink RL 18 yX5_house, Cond.instanceMethod yX5_house, Cond.selects RX5 yX5_house yX5_house, Cond.code yX5_house cX5_house 5 (some .int), Cond.fieldLink RX5 116 "SwitchFloor$Wiring" "spotOfHouse" "[I", Cond.fieldLink RX5 127 "SwitchFloor$Wiring" "houses" "I", Cond.methodLink RX5 113 yX5_needHouse, Cond.static yX5_needHouse, Cond.code yX5_needHouse cX5_needHouse 1 none, Cond.methodLink RX5 121 yX4_putHouse, Cond.instanceMethod yX4_putHouse]
def wsL_isSent_r5 : List Cond := [Cond.selects RX4 yX4_putHouse yX4_putHouse, Cond.code yX4_putHouse cX4_putHouse 3 none, Cond.methodLink RX5 124 yX3_openForHouse, Cond.instanceMethod yX3_openForHouse, Cond.selects RX3 yX3_openForHouse yX3_openForHouse, Cond.code yX3_openForHouse cX3_openForHouse 2 none, Cond.fieldLink RX3 55 "SwitchFloor$Tree" "wiring" "LSwitchFloor$Wiring;", Cond.fieldLink RX3 72 "SwitchFloor$Wiring" "house" "[I", Cond.methodLink RX3 68 yX3_isShut, Cond.instanceMethod yX3_isShut, Cond.selects RX3 yX3_isShut yX3_isShut, Cond.code yX3_isShut cX3_isShut 2 (some .boolean), Cond.fieldLink RX3 24 "SwitchFloor$Tree" "shutTill" "[I", Cond.methodLink RL 22 yX5_rank, Cond.instanceMethod yX5_rank, Cond.selects RX5 yX5_rank yX5_rank, Cond.code yX5_rank cX5_rank 4 (some .int), Cond.fieldLink RX5 133 "SwitchFloor$Wiring" "rank" "[I", Cond.methodLink RL 25 yX5_shut, Cond.instanceMethod yX5_shut, Cond.selects RX5 yX5_shut yX5_shut, Cond.code yX5_shut cX5_shut 4 (some .boolean), Cond.methodLink RX5 136 yX3_isShut, Cond.methodLink RX5 139 yX3_endShut]
def wsL_isSent_r6 : List Cond := [Cond.instanceMethod yX3_endShut, Cond.selects RX3 yX3_endShut yX3_endShut, Cond.code yX3_endShut cX3_endShut 2 none, Cond.methodLink RX3 79 yX3_openForHouse, Cond.methodLink RX5 142 yX5_shutUntil, Cond.instanceMethod yX5_shutUntil, Cond.selects RX5 yX5_shutUntil yX5_shutUntil, Cond.code yX5_shutUntil cX5_shutUntil 3 none, Cond.methodLink RX5 270 yX3_beginShut, Cond.instanceMethod yX3_beginShut, Cond.selects RX3 yX3_beginShut yX3_beginShut, Cond.code yX3_beginShut cX3_beginShut 3 none, Cond.methodLink RX3 75 yX3_close, Cond.methodLink RL 29 yX5_guard, Cond.instanceMethod yX5_guard, Cond.selects RX5 yX5_guard yX5_guard, Cond.code yX5_guard cX5_guard 6 (some .int), Cond.fieldLink RX5 145 "SwitchFloor$Wiring" "guard" "[I", Cond.methodLink RL 32 yL_plained, Cond.static yL_plained, Cond.code yL_plained cL_plained 4 (some .int), Cond.methodLink RL 78 yX5_plain, Cond.instanceMethod yX5_plain, Cond.selects RX5 yX5_plain yX5_plain]
def wsL_isSent_r7 : List Cond := [Cond.code yX5_plain cX5_plain 4 none, Cond.fieldLink RX5 31 "SwitchFloor" "lanes" "LSwitchFloor$Lanes;", Cond.methodLink RX5 148 yX5_needLane, Cond.static yX5_needLane, Cond.code yX5_needLane cX5_needLane 1 none, Cond.methodLink RX5 151 yX0_bitOf, Cond.static yX0_bitOf, Cond.initialized RX0, Cond.code yX0_bitOf cX0_bitOf 1 (some .int), Cond.methodLink RX5 154 yX0_setUp, Cond.instanceMethod yX0_setUp, Cond.selects RX0 yX0_setUp yX0_setUp, Cond.code yX0_setUp cX0_setUp 4 none, Cond.fieldLink RX0 9 "SwitchFloor$Lanes" "carried" "[I", Cond.fieldLink RX0 15 "SwitchFloor$Lanes" "untagged" "[I", Cond.methodLink RL 38 yL_trunked, Cond.static yL_trunked, Cond.code yL_trunked cL_trunked 5 (some .int), Cond.methodLink RL 82 yX5_trunk, Cond.instanceMethod yX5_trunk, Cond.selects RX5 yX5_trunk yX5_trunk, Cond.code yX5_trunk cX5_trunk 5 none, Cond.methodLink RL 42 yX5_limit, Cond.instanceMethod yX5_limit]
def wsL_isSent_r8 : List Cond := [Cond.selects RX5 yX5_limit yX5_limit, Cond.code yX5_limit cX5_limit 3 (some .int), Cond.fieldLink RX5 59 "SwitchFloor" "floodLimit" "I", Cond.methodLink RL 46 yX5_beat, Cond.instanceMethod yX5_beat, Cond.selects RX5 yX5_beat yX5_beat, Cond.code yX5_beat cX5_beat 3 (some .int), Cond.fieldLink RX5 160 "SwitchFloor$Tree" "beats" "I", Cond.methodLink RX5 157 yX5_passBeat, Cond.instanceMethod yX5_passBeat, Cond.selects RX5 yX5_passBeat yX5_passBeat, Cond.code yX5_passBeat cX5_passBeat 2 none, Cond.fieldLink RX5 49 "SwitchFloor" "floods" "[I", Cond.fieldLink RX5 273 "SwitchFloor$Tree" "caught" "[Z", Cond.fieldLink RX5 276 "SwitchFloor$Tree" "stale" "[Z", Cond.methodLink RX5 214 yX3_pass, Cond.instanceMethod yX3_pass, Cond.selects RX3 yX3_pass yX3_pass, Cond.code yX3_pass cX3_pass 2 none, Cond.fieldLink RX3 59 "SwitchFloor$Tree" "beats" "I", Cond.fieldLink RX3 49 "SwitchFloor$Tree" "stale" "[Z", Cond.methodLink RX3 82 yX3_tell, Cond.instanceMethod yX3_tell, Cond.selects RX3 yX3_tell yX3_tell]
def wsL_isSent_r9 : List Cond := [Cond.code yX3_tell cX3_tell 3 none, Cond.fieldLink RX3 37 "SwitchFloor$Tree" "toldRoot" "[I", Cond.fieldLink RX3 63 "SwitchFloor$Wiring" "peer" "[I", Cond.fieldLink RX3 9 "SwitchFloor$Tree" "root" "[I", Cond.fieldLink RX3 40 "SwitchFloor$Tree" "toldCost" "[I", Cond.fieldLink RX3 15 "SwitchFloor$Tree" "cost" "[I", Cond.fieldLink RX3 43 "SwitchFloor$Tree" "toldHops" "[I", Cond.fieldLink RX3 18 "SwitchFloor$Tree" "hops" "[I", Cond.methodLink RX3 100 yX3_isJoined, Cond.instanceMethod yX3_isJoined, Cond.selects RX3 yX3_isJoined yX3_isJoined, Cond.code yX3_isJoined cX3_isJoined 3 (some .boolean), Cond.methodLink RX3 85 yX3_guardForHouses, Cond.instanceMethod yX3_guardForHouses, Cond.selects RX3 yX3_guardForHouses yX3_guardForHouses, Cond.code yX3_guardForHouses cX3_guardForHouses 2 none, Cond.fieldLink RX3 46 "SwitchFloor$Tree" "caught" "[Z", Cond.fieldLink RX3 103 "SwitchFloor$Wiring" "guard" "[I", Cond.methodLink RX3 106 yX3_beginShut, Cond.methodLink RX3 88 yX3_takeBest, Cond.instanceMethod yX3_takeBest, Cond.selects RX3 yX3_takeBest yX3_takeBest, Cond.code yX3_takeBest cX3_takeBest 5 none, Cond.fieldLink RX3 21 "SwitchFloor$Tree" "rootPort" "[I"]
def wsL_isSent_r10 : List Cond := [Cond.methodLink RX3 114 yX3_offer, Cond.instanceMethod yX3_offer, Cond.selects RX3 yX3_offer yX3_offer, Cond.code yX3_offer cX3_offer 3 none, Cond.fieldLink RX3 124 "SwitchFloor$Wiring" "cost" "[I", Cond.methodLink RX3 121 yX3_isBetterThanHeld, Cond.instanceMethod yX3_isBetterThanHeld, Cond.selects RX3 yX3_isBetterThanHeld yX3_isBetterThanHeld, Cond.code yX3_isBetterThanHeld cX3_isBetterThanHeld 6 (some .boolean), Cond.methodLink RX3 117 yX4_isBetterName, Cond.instanceMethod yX4_isBetterName, Cond.selects RX4 yX4_isBetterName yX4_isBetterName, Cond.code yX4_isBetterName cX4_isBetterName 3 (some .boolean), Cond.fieldLink RX4 27 "SwitchFloor$Wiring" "rank" "[I", Cond.methodLink RX3 91 yX3_turn, Cond.instanceMethod yX3_turn, Cond.selects RX3 yX3_turn yX3_turn, Cond.code yX3_turn cX3_turn 2 none, Cond.methodLink RX3 125 yX3_roleOf, Cond.instanceMethod yX3_roleOf, Cond.selects RX3 yX3_roleOf yX3_roleOf, Cond.code yX3_roleOf cX3_roleOf 2 (some .int), Cond.methodLink RX3 133 yX3_isHeldBetter, Cond.instanceMethod yX3_isHeldBetter]
def wsL_isSent_r11 : List Cond := [Cond.selects RX3 yX3_isHeldBetter yX3_isHeldBetter, Cond.code yX3_isHeldBetter cX3_isHeldBetter 3 (some .boolean), Cond.methodLink RX3 129 yX3_turnTo, Cond.instanceMethod yX3_turnTo, Cond.selects RX3 yX3_turnTo yX3_turnTo, Cond.code yX3_turnTo cX3_turnTo 3 none, Cond.methodLink RX3 94 yX3_spreadStale, Cond.instanceMethod yX3_spreadStale, Cond.selects RX3 yX3_spreadStale yX3_spreadStale, Cond.code yX3_spreadStale cX3_spreadStale 3 none, Cond.methodLink RX3 97 yX3_endStorms, Cond.instanceMethod yX3_endStorms, Cond.selects RX3 yX3_endStorms yX3_endStorms, Cond.code yX3_endStorms cX3_endStorms 2 none, Cond.methodLink RX3 136 yX3_endShut, Cond.methodLink RX5 279 yX2_empty, Cond.instanceMethod yX2_empty, Cond.selects RX2 yX2_empty yX2_empty, Cond.code yX2_empty cX2_empty 4 none, Cond.methodLink RX5 282 yX2_dropOld, Cond.instanceMethod yX2_dropOld, Cond.selects RX2 yX2_dropOld yX2_dropOld, Cond.code yX2_dropOld cX2_dropOld 3 none, Cond.fieldLink RX2 15 "SwitchFloor$Tables" "heardAt" "[I"]
def wsL_isSent_r12 : List Cond := [Cond.methodLink RL 49 yX5_send, Cond.instanceMethod yX5_send, Cond.selects RX5 yX5_send yX5_send, Cond.code yX5_send cX5_send 8 (some .int), Cond.fieldLink RX5 45 "SwitchFloor" "steps" "LSwitchFloor$Steps;", Cond.fieldLink RX5 174 "SwitchFloor$Steps" "size" "I", Cond.methodLink RX5 167 yX1_restart, Cond.instanceMethod yX1_restart, Cond.selects RX1 yX1_restart yX1_restart, Cond.initialized RX1, Cond.code yX1_restart cX1_restart 1 none, Cond.fieldLink RX1 24 "SwitchFloor$Steps" "size" "I", Cond.methodLink RX5 170 yX1_add, Cond.instanceMethod yX1_add, Cond.selects RX1 yX1_add yX1_add, Cond.code yX1_add cX1_add 5 none, Cond.fieldLink RX1 9 "SwitchFloor$Steps" "spot" "[I", Cond.fieldLink RX1 15 "SwitchFloor$Steps" "tag" "[I", Cond.fieldLink RX1 18 "SwitchFloor$Steps" "second" "[I", Cond.fieldLink RX1 21 "SwitchFloor$Steps" "hops" "[I", Cond.methodLink RX5 177 yX5_takeStep, Cond.instanceMethod yX5_takeStep, Cond.selects RX5 yX5_takeStep yX5_takeStep, Cond.code yX5_takeStep cX5_takeStep 9 (some .int)]
def wsL_isSent_r13 : List Cond := [Cond.fieldLink RX5 291 "SwitchFloor$Steps" "spot" "[I", Cond.fieldLink RX5 294 "SwitchFloor$Steps" "tag" "[I", Cond.fieldLink RX5 198 "SwitchFloor$Tree" "open" "[Z", Cond.methodLink RX5 239 yX5_laneLetIn, Cond.instanceMethod yX5_laneLetIn, Cond.selects RX5 yX5_laneLetIn yX5_laneLetIn, Cond.code yX5_laneLetIn cX5_laneLetIn 3 (some .int), Cond.methodLink RX5 285 yX0_laneIn, Cond.instanceMethod yX0_laneIn, Cond.selects RX0 yX0_laneIn yX0_laneIn, Cond.code yX0_laneIn cX0_laneIn 4 (some .int), Cond.methodLink RX0 22 yX0_carries, Cond.instanceMethod yX0_carries, Cond.selects RX0 yX0_carries yX0_carries, Cond.code yX0_carries cX0_carries 3 (some .boolean), Cond.methodLink RX0 18 yX0_bitOf, Cond.methodLink RX5 297 yX2_hear, Cond.instanceMethod yX2_hear, Cond.selects RX2 yX2_hear yX2_hear, Cond.code yX2_hear cX2_hear 7 none, Cond.methodLink RX2 21 yX2_indexOf, Cond.static yX2_indexOf, Cond.code yX2_indexOf cX2_indexOf 3 (some .int), Cond.methodLink RX5 207 yX2_portFor]
def wsL_isSent_r14 : List Cond := [Cond.instanceMethod yX2_portFor, Cond.selects RX2 yX2_portFor yX2_portFor, Cond.code yX2_portFor cX2_portFor 4 (some .int), Cond.methodLink RX5 300 yX5_flood, Cond.instanceMethod yX5_flood, Cond.selects RX5 yX5_flood yX5_flood, Cond.code yX5_flood cX5_flood 8 (some .int), Cond.methodLink RX5 303 yX5_goOut, Cond.instanceMethod yX5_goOut, Cond.selects RX5 yX5_goOut yX5_goOut, Cond.code yX5_goOut cX5_goOut 9 (some .int), Cond.fieldLink RX5 245 "SwitchFloor$Wiring" "house" "[I", Cond.fieldLink RX5 310 "SwitchFloor$Steps" "hops" "[I", Cond.fieldLink RX5 311 "SwitchFloor$Steps" "second" "[I", Cond.methodLink RX5 288 yX0_carries, Cond.methodLink RX5 307 yX5_handOver, Cond.instanceMethod yX5_handOver, Cond.selects RX5 yX5_handOver yX5_handOver, Cond.code yX5_handOver cX5_handOver 3 (some .int), Cond.fieldLink RX5 53 "SwitchFloor" "gotFrames" "[I", Cond.fieldLink RX5 56 "SwitchFloor" "overheardFrames" "[I", Cond.methodLink RX5 248 yX0_tagOut, Cond.instanceMethod yX0_tagOut, Cond.selects RX0 yX0_tagOut yX0_tagOut]
def wsL_isSent_r15 : List Cond := [Cond.code yX0_tagOut cX0_tagOut 3 (some .int), Cond.methodLink RL 53 yX5_holds, Cond.instanceMethod yX5_holds, Cond.selects RX5 yX5_holds yX5_holds, Cond.code yX5_holds cX5_holds 3 (some .int), Cond.fieldLink RX5 181 "SwitchFloor$Tree" "root" "[I", Cond.fieldLink RX5 184 "SwitchFloor$Tree" "cost" "[I", Cond.fieldLink RX5 187 "SwitchFloor$Tree" "hops" "[I", Cond.fieldLink RX5 190 "SwitchFloor$Tree" "rootPort" "[I", Cond.fieldLink RX5 193 "SwitchFloor$Tables" "entries" "[I", Cond.methodLink RL 56 yX5_port, Cond.instanceMethod yX5_port, Cond.selects RX5 yX5_port yX5_port, Cond.code yX5_port cX5_port 5 (some .int), Cond.fieldLink RX5 202 "SwitchFloor$Tree" "role" "[I", Cond.methodLink RL 59 yX5_table, Cond.instanceMethod yX5_table, Cond.selects RX5 yX5_table yX5_table, Cond.code yX5_table cX5_table 4 (some .int), Cond.methodLink RL 62 yX5_got, Cond.instanceMethod yX5_got, Cond.selects RX5 yX5_got yX5_got, Cond.code yX5_got cX5_got 3 (some .int), Cond.methodLink RL 66 yX5_found]
def wsL_isSent_r16 : List Cond := [Cond.instanceMethod yX5_found, Cond.selects RX5 yX5_found yX5_found, Cond.code yX5_found cX5_found 4 (some .int), Cond.fieldLink RX5 228 "SwitchFloor$Tree" "way" "[I", Cond.methodLink RX5 225 yX3_measureWays, Cond.instanceMethod yX3_measureWays, Cond.selects RX3 yX3_measureWays yX3_measureWays, Cond.code yX3_measureWays cX3_measureWays 4 none, Cond.fieldLink RX3 52 "SwitchFloor$Tree" "way" "[I", Cond.methodLink RX3 139 yX3_shorten, Cond.instanceMethod yX3_shorten, Cond.selects RX3 yX3_shorten yX3_shorten, Cond.code yX3_shorten cX3_shorten 3 none, Cond.methodLink RX5 231 yX4_isBetterName, Cond.methodLink RL 69 yX5_walk, Cond.instanceMethod yX5_walk, Cond.selects RX5 yX5_walk yX5_walk, Cond.code yX5_walk cX5_walk 8 (some .int), Cond.methodLink RX5 242 yX5_wayTold, Cond.instanceMethod yX5_wayTold, Cond.selects RX5 yX5_wayTold yX5_wayTold, Cond.code yX5_wayTold cX5_wayTold 6 (some .int)]
def wsL_isSent : List Cond := .code yL_isSent cL_isSent 13 (some .boolean) :: ((wsL_isSent_r1 ++ (wsL_isSent_r2 ++ (wsL_isSent_r3 ++ (wsL_isSent_r4 ++ (wsL_isSent_r5 ++ (wsL_isSent_r6 ++ (wsL_isSent_r7 ++ (wsL_isSent_r8 ++ (wsL_isSent_r9 ++ (wsL_isSent_r10 ++ (wsL_isSent_r11 ++ (wsL_isSent_r12 ++ (wsL_isSent_r13 ++ (wsL_isSent_r14 ++ (wsL_isSent_r15 ++ wsL_isSent_r16))))))))))))))) ++ wsX50 ++ wsX40 ++ wsX30 ++ wsX20 ++ wsX00 ++ wsX10 ++ (vx_atS RX5 71 "java/lang/IllegalArgumentException" ["java/lang/RuntimeException", "java/lang/Exception"]).filter goodWord ++ (vx_atS RX5 90 "java/lang/IllegalStateException" ["java/lang/RuntimeException", "java/lang/Exception"]).filter goodWord ++ (vx_atS RX5 255 "java/lang/IndexOutOfBoundsException" ["java/lang/RuntimeException", "java/lang/Exception"]).filter goodWord)
def wsL_law0_r1 : List Cond := [Cond.classLink RL 9 RX5, Cond.instantiable RX5 10, Cond.initialized RX5, Cond.arrayClass .int, Cond.constant RL 111 (90000), Cond.constant RL 112 (60000), Cond.methodLink RL 102 yX5_init, Cond.instanceMethod yX5_init, Cond.code yX5_init cX5_init 2 none, Cond.methodLink RX5 3 objectInit, Cond.instanceMethod objectInit, Cond.code objectInit ⟨#[0xb1]⟩ 1 none, Cond.classLink RX5 9 RX4, Cond.instantiable RX4 8, Cond.initialized RX4, Cond.fieldLink RX5 12 "SwitchFloor" "wiring" "LSwitchFloor$Wiring;", Cond.classLink RX5 16 RX3, Cond.instantiable RX3 16, Cond.initialized RX3, Cond.fieldLink RX5 21 "SwitchFloor" "tree" "LSwitchFloor$Tree;", Cond.fieldLink RX5 25 "SwitchFloor" "ahead" "LSwitchFloor$Tree;", Cond.classLink RX5 28 RX0, Cond.instantiable RX0 2, Cond.initialized RX0]
def wsL_law0_r2 : List Cond := [Cond.fieldLink RX5 31 "SwitchFloor" "lanes" "LSwitchFloor$Lanes;", Cond.classLink RX5 35 RX2, Cond.instantiable RX2 3, Cond.initialized RX2, Cond.fieldLink RX5 38 "SwitchFloor" "tables" "LSwitchFloor$Tables;", Cond.classLink RX5 42 RX1, Cond.instantiable RX1 5, Cond.initialized RX1, Cond.fieldLink RX5 45 "SwitchFloor" "steps" "LSwitchFloor$Steps;", Cond.fieldLink RX5 49 "SwitchFloor" "floods" "[I", Cond.fieldLink RX5 53 "SwitchFloor" "gotFrames" "[I", Cond.fieldLink RX5 56 "SwitchFloor" "overheardFrames" "[I", Cond.fieldLink RX5 59 "SwitchFloor" "floodLimit" "I", Cond.methodLink RX5 11 yX4_init, Cond.instanceMethod yX4_init, Cond.code yX4_init cX4_init 2 none, Cond.methodLink RX4 3 objectInit, Cond.fieldLink RX4 9 "SwitchFloor$Wiring" "peer" "[I", Cond.fieldLink RX4 15 "SwitchFloor$Wiring" "cost" "[I", Cond.fieldLink RX4 18 "SwitchFloor$Wiring" "house" "[I", Cond.fieldLink RX4 21 "SwitchFloor$Wiring" "guard" "[I", Cond.fieldLink RX4 24 "SwitchFloor$Wiring" "spotOfHouse" "[I", Cond.fieldLink RX4 27 "SwitchFloor$Wiring" "rank" "[I", Cond.methodLink RX5 18 yX3_init]
def wsL_law0_r3 : List Cond := [Cond.instanceMethod yX3_init, Cond.code yX3_init cX3_init 3 none, Cond.methodLink RX3 3 objectInit, Cond.fieldLink RX3 9 "SwitchFloor$Tree" "root" "[I", Cond.fieldLink RX3 15 "SwitchFloor$Tree" "cost" "[I", Cond.fieldLink RX3 18 "SwitchFloor$Tree" "hops" "[I", Cond.fieldLink RX3 21 "SwitchFloor$Tree" "rootPort" "[I", Cond.fieldLink RX3 24 "SwitchFloor$Tree" "shutTill" "[I", Cond.arrayClass .boolean, Cond.fieldLink RX3 27 "SwitchFloor$Tree" "open" "[Z", Cond.fieldLink RX3 31 "SwitchFloor$Tree" "role" "[I", Cond.fieldLink RX3 34 "SwitchFloor$Tree" "waited" "[I", Cond.fieldLink RX3 37 "SwitchFloor$Tree" "toldRoot" "[I", Cond.fieldLink RX3 40 "SwitchFloor$Tree" "toldCost" "[I", Cond.fieldLink RX3 43 "SwitchFloor$Tree" "toldHops" "[I", Cond.fieldLink RX3 46 "SwitchFloor$Tree" "caught" "[Z", Cond.fieldLink RX3 49 "SwitchFloor$Tree" "stale" "[Z", Cond.fieldLink RX3 52 "SwitchFloor$Tree" "way" "[I", Cond.fieldLink RX3 55 "SwitchFloor$Tree" "wiring" "LSwitchFloor$Wiring;", Cond.methodLink RX5 30 yX0_init, Cond.instanceMethod yX0_init, Cond.code yX0_init cX0_init 2 none, Cond.methodLink RX0 3 objectInit, Cond.fieldLink RX0 9 "SwitchFloor$Lanes" "carried" "[I"]
def wsL_law0_r4 : List Cond := [Cond.fieldLink RX0 15 "SwitchFloor$Lanes" "untagged" "[I", Cond.methodLink RX5 37 yX2_init, Cond.instanceMethod yX2_init, Cond.code yX2_init cX2_init 2 none, Cond.methodLink RX2 3 objectInit, Cond.fieldLink RX2 11 "SwitchFloor$Tables" "heardBy" "[I", Cond.fieldLink RX2 15 "SwitchFloor$Tables" "heardAt" "[I", Cond.fieldLink RX2 18 "SwitchFloor$Tables" "entries" "[I", Cond.instanceMethod yX1_init, Cond.code yX1_init cX1_init 1 none, Cond.methodLink RX1 3 objectInit, Cond.fieldLink RX1 9 "SwitchFloor$Steps" "spot" "[I", Cond.fieldLink RX1 15 "SwitchFloor$Steps" "tag" "[I", Cond.fieldLink RX1 18 "SwitchFloor$Steps" "second" "[I", Cond.fieldLink RX1 21 "SwitchFloor$Steps" "hops" "[I", Cond.methodLink RL 103 yX5_isAtRest, Cond.instanceMethod yX5_isAtRest, Cond.selects RX5 yX5_isAtRest yX5_isAtRest, Cond.code yX5_isAtRest cX5_isAtRest 1 (some .boolean), Cond.methodLink RX5 210 yX3_copyFrom, Cond.instanceMethod yX3_copyFrom, Cond.selects RX3 yX3_copyFrom yX3_copyFrom, Cond.code yX3_copyFrom cX3_copyFrom 3 none, Cond.fieldLink RX3 59 "SwitchFloor$Tree" "beats" "I"]
def wsL_law0_r5 : List Cond := [Cond.methodLink RX5 214 yX3_pass, Cond.instanceMethod yX3_pass, Cond.selects RX3 yX3_pass yX3_pass, Cond.code yX3_pass cX3_pass 2 none, Cond.methodLink RX3 82 yX3_tell, Cond.instanceMethod yX3_tell, Cond.selects RX3 yX3_tell yX3_tell, Cond.code yX3_tell cX3_tell 3 none, Cond.fieldLink RX3 63 "SwitchFloor$Wiring" "peer" "[I", Cond.methodLink RX3 100 yX3_isJoined, Cond.instanceMethod yX3_isJoined, Cond.selects RX3 yX3_isJoined yX3_isJoined, Cond.code yX3_isJoined cX3_isJoined 3 (some .boolean), Cond.methodLink RX3 68 yX3_isShut, Cond.instanceMethod yX3_isShut, Cond.selects RX3 yX3_isShut yX3_isShut, Cond.code yX3_isShut cX3_isShut 2 (some .boolean), Cond.methodLink RX3 85 yX3_guardForHouses, Cond.instanceMethod yX3_guardForHouses, Cond.selects RX3 yX3_guardForHouses yX3_guardForHouses, Cond.code yX3_guardForHouses cX3_guardForHouses 2 none, Cond.fieldLink RX3 103 "SwitchFloor$Wiring" "guard" "[I", Cond.methodLink RX3 106 yX3_beginShut, Cond.instanceMethod yX3_beginShut]
def wsL_law0_r6 : List Cond := [Cond.selects RX3 yX3_beginShut yX3_beginShut, Cond.code yX3_beginShut cX3_beginShut 3 none, Cond.methodLink RX3 75 yX3_close, Cond.instanceMethod yX3_close, Cond.selects RX3 yX3_close yX3_close, Cond.code yX3_close cX3_close 2 none, Cond.methodLink RX3 88 yX3_takeBest, Cond.instanceMethod yX3_takeBest, Cond.selects RX3 yX3_takeBest yX3_takeBest, Cond.code yX3_takeBest cX3_takeBest 5 none, Cond.static yX5_spotOf, Cond.code yX5_spotOf cX5_spotOf 2 (some .int), Cond.methodLink RX3 114 yX3_offer, Cond.instanceMethod yX3_offer, Cond.selects RX3 yX3_offer yX3_offer, Cond.code yX3_offer cX3_offer 3 none, Cond.fieldLink RX3 124 "SwitchFloor$Wiring" "cost" "[I", Cond.methodLink RX3 121 yX3_isBetterThanHeld, Cond.instanceMethod yX3_isBetterThanHeld, Cond.selects RX3 yX3_isBetterThanHeld yX3_isBetterThanHeld, Cond.code yX3_isBetterThanHeld cX3_isBetterThanHeld 6 (some .boolean), Cond.methodLink RX3 117 yX4_isBetterName, Cond.instanceMethod yX4_isBetterName, Cond.selects RX4 yX4_isBetterName yX4_isBetterName]
def wsL_law0_r7 : List Cond := [Cond.code yX4_isBetterName cX4_isBetterName 3 (some .boolean), Cond.methodLink RX3 91 yX3_turn, Cond.instanceMethod yX3_turn, Cond.selects RX3 yX3_turn yX3_turn, Cond.code yX3_turn cX3_turn 2 none, Cond.methodLink RX3 125 yX3_roleOf, Cond.instanceMethod yX3_roleOf, Cond.selects RX3 yX3_roleOf yX3_roleOf, Cond.code yX3_roleOf cX3_roleOf 2 (some .int), Cond.methodLink RX3 133 yX3_isHeldBetter, Cond.instanceMethod yX3_isHeldBetter, Cond.selects RX3 yX3_isHeldBetter yX3_isHeldBetter, Cond.code yX3_isHeldBetter cX3_isHeldBetter 3 (some .boolean), Cond.methodLink RX3 129 yX3_turnTo, Cond.instanceMethod yX3_turnTo, Cond.selects RX3 yX3_turnTo yX3_turnTo, Cond.code yX3_turnTo cX3_turnTo 3 none, Cond.methodLink RX3 94 yX3_spreadStale, Cond.instanceMethod yX3_spreadStale, Cond.selects RX3 yX3_spreadStale yX3_spreadStale, Cond.code yX3_spreadStale cX3_spreadStale 3 none, Cond.methodLink RX3 97 yX3_endStorms, Cond.instanceMethod yX3_endStorms, Cond.selects RX3 yX3_endStorms yX3_endStorms]
def wsL_law0_r8 : List Cond := [Cond.code yX3_endStorms cX3_endStorms 2 none, Cond.methodLink RX3 136 yX3_endShut, Cond.instanceMethod yX3_endShut, Cond.selects RX3 yX3_endShut yX3_endShut, Cond.code yX3_endShut cX3_endShut 2 none, Cond.methodLink RX3 79 yX3_openForHouse, Cond.instanceMethod yX3_openForHouse, Cond.selects RX3 yX3_openForHouse yX3_openForHouse, Cond.code yX3_openForHouse cX3_openForHouse 2 none, Cond.fieldLink RX3 72 "SwitchFloor$Wiring" "house" "[I", Cond.methodLink RX5 217 yX3_looksLike, Cond.instanceMethod yX3_looksLike, Cond.selects RX3 yX3_looksLike yX3_looksLike, Cond.code yX3_looksLike cX3_looksLike 3 (some .boolean), Cond.methodLink RX5 221 yX3_hasWaitingPort, Cond.instanceMethod yX3_hasWaitingPort, Cond.selects RX3 yX3_hasWaitingPort yX3_hasWaitingPort, Cond.code yX3_hasWaitingPort cX3_hasWaitingPort 2 (some .boolean), Cond.methodLink RL 98 yL_does, Cond.static yL_does, Cond.initialized RL, Cond.codeWith yL_does cL_does 8 (some .int) [(0, 268, 269, 72), (0, 268, 275, 74), (0, 268, 281, 76)], Cond.classLink RL 72 "java/lang/IndexOutOfBoundsException", Cond.classLink RL 74 "java/lang/IllegalArgumentException"]
def wsL_law0_r9 : List Cond := [Cond.classLink RL 76 "java/lang/IllegalStateException", Cond.methodLink RL 8 yX5_wire, Cond.instanceMethod yX5_wire, Cond.selects RX5 yX5_wire yX5_wire, Cond.code yX5_wire cX5_wire 8 (some .int), Cond.classLink RX5 67 "java/lang/IllegalArgumentException", Cond.initialized "java/lang/IllegalArgumentException", Cond.classLink RX5 86 "java/lang/IllegalStateException", Cond.initialized "java/lang/IllegalStateException", Cond.fieldLink RX5 94 "SwitchFloor$Wiring" "wires" "I", Cond.methodLink RX5 63 yX5_needPort, Cond.static yX5_needPort, Cond.code yX5_needPort cX5_needPort 2 none, Cond.classLink RX5 251 "java/lang/IndexOutOfBoundsException", Cond.initialized "java/lang/IndexOutOfBoundsException", Cond.methodLink RX5 130 yX5_needSwitch, Cond.static yX5_needSwitch, Cond.code yX5_needSwitch cX5_needSwitch 1 none, Cond.methodLink RX5 74 yX5_needWithin, Cond.static yX5_needWithin, Cond.code yX5_needWithin cX5_needWithin 3 none, Cond.methodLink RX5 78 yX5_spotOf, Cond.methodLink RX5 82 yX4_isBare, Cond.instanceMethod yX4_isBare]
def wsL_law0_r10 : List Cond := [Cond.selects RX4 yX4_isBare yX4_isBare, Cond.code yX4_isBare cX4_isBare 2 (some .boolean), Cond.methodLink RX5 91 yX4_putWire, Cond.instanceMethod yX4_putWire, Cond.selects RX4 yX4_putWire yX4_putWire, Cond.code yX4_putWire cX4_putWire 4 none, Cond.fieldLink RX4 30 "SwitchFloor$Wiring" "wires" "I", Cond.methodLink RL 14 yX5_free, Cond.instanceMethod yX5_free, Cond.selects RX5 yX5_free yX5_free, Cond.code yX5_free cX5_free 5 (some .int), Cond.fieldLink RX5 99 "SwitchFloor$Wiring" "peer" "[I", Cond.methodLink RX5 102 yX5_dropUse, Cond.instanceMethod yX5_dropUse, Cond.selects RX5 yX5_dropUse yX5_dropUse, Cond.code yX5_dropUse cX5_dropUse 2 none, Cond.methodLink RX5 264 yX3_close, Cond.methodLink RX5 267 yX2_forgetPort, Cond.instanceMethod yX2_forgetPort, Cond.selects RX2 yX2_forgetPort yX2_forgetPort, Cond.code yX2_forgetPort cX2_forgetPort 4 none, Cond.methodLink RX2 25 yX2_drop, Cond.instanceMethod yX2_drop, Cond.selects RX2 yX2_drop yX2_drop]
def wsL_law0_r11 : List Cond := [Cond.code yX2_drop cX2_drop 2 none, Cond.methodLink RX5 106 yX4_takeHouse, Cond.instanceMethod yX4_takeHouse, Cond.selects RX4 yX4_takeHouse yX4_takeHouse, Cond.code yX4_takeHouse cX4_takeHouse 3 (some .int), Cond.fieldLink RX4 34 "SwitchFloor$Wiring" "houses" "I", Cond.methodLink RX5 110 yX4_takeWire, Cond.instanceMethod yX4_takeWire, Cond.selects RX4 yX4_takeWire yX4_takeWire, Cond.code yX4_takeWire cX4_takeWire 3 none, Cond.methodLink RL 18 yX5_house, Cond.instanceMethod yX5_house, Cond.selects RX5 yX5_house yX5_house, Cond.code yX5_house cX5_house 5 (some .int), Cond.fieldLink RX5 116 "SwitchFloor$Wiring" "spotOfHouse" "[I", Cond.fieldLink RX5 127 "SwitchFloor$Wiring" "houses" "I", Cond.methodLink RX5 113 yX5_needHouse, Cond.static yX5_needHouse, Cond.code yX5_needHouse cX5_needHouse 1 none, Cond.methodLink RX5 121 yX4_putHouse, Cond.instanceMethod yX4_putHouse, Cond.selects RX4 yX4_putHouse yX4_putHouse, Cond.code yX4_putHouse cX4_putHouse 3 none, Cond.methodLink RX5 124 yX3_openForHouse]
def wsL_law0_r12 : List Cond := [Cond.methodLink RL 22 yX5_rank, Cond.instanceMethod yX5_rank, Cond.selects RX5 yX5_rank yX5_rank, Cond.code yX5_rank cX5_rank 4 (some .int), Cond.fieldLink RX5 133 "SwitchFloor$Wiring" "rank" "[I", Cond.methodLink RL 25 yX5_shut, Cond.instanceMethod yX5_shut, Cond.selects RX5 yX5_shut yX5_shut, Cond.code yX5_shut cX5_shut 4 (some .boolean), Cond.methodLink RX5 136 yX3_isShut, Cond.methodLink RX5 139 yX3_endShut, Cond.methodLink RX5 142 yX5_shutUntil, Cond.instanceMethod yX5_shutUntil, Cond.selects RX5 yX5_shutUntil yX5_shutUntil, Cond.code yX5_shutUntil cX5_shutUntil 3 none, Cond.methodLink RX5 270 yX3_beginShut, Cond.methodLink RL 29 yX5_guard, Cond.instanceMethod yX5_guard, Cond.selects RX5 yX5_guard yX5_guard, Cond.code yX5_guard cX5_guard 6 (some .int), Cond.fieldLink RX5 145 "SwitchFloor$Wiring" "guard" "[I", Cond.methodLink RL 32 yL_plained, Cond.static yL_plained, Cond.code yL_plained cL_plained 4 (some .int)]
def wsL_law0_r13 : List Cond := [Cond.methodLink RL 78 yX5_plain, Cond.instanceMethod yX5_plain, Cond.selects RX5 yX5_plain yX5_plain, Cond.code yX5_plain cX5_plain 4 none, Cond.methodLink RX5 148 yX5_needLane, Cond.static yX5_needLane, Cond.code yX5_needLane cX5_needLane 1 none, Cond.methodLink RX5 151 yX0_bitOf, Cond.static yX0_bitOf, Cond.code yX0_bitOf cX0_bitOf 1 (some .int), Cond.methodLink RX5 154 yX0_setUp, Cond.instanceMethod yX0_setUp, Cond.selects RX0 yX0_setUp yX0_setUp, Cond.code yX0_setUp cX0_setUp 4 none, Cond.methodLink RL 38 yL_trunked, Cond.static yL_trunked, Cond.code yL_trunked cL_trunked 5 (some .int), Cond.methodLink RL 82 yX5_trunk, Cond.instanceMethod yX5_trunk, Cond.selects RX5 yX5_trunk yX5_trunk, Cond.code yX5_trunk cX5_trunk 5 none, Cond.methodLink RL 42 yX5_limit, Cond.instanceMethod yX5_limit, Cond.selects RX5 yX5_limit yX5_limit]
def wsL_law0_r14 : List Cond := [Cond.code yX5_limit cX5_limit 3 (some .int), Cond.methodLink RL 46 yX5_beat, Cond.instanceMethod yX5_beat, Cond.selects RX5 yX5_beat yX5_beat, Cond.code yX5_beat cX5_beat 3 (some .int), Cond.fieldLink RX5 160 "SwitchFloor$Tree" "beats" "I", Cond.methodLink RX5 157 yX5_passBeat, Cond.instanceMethod yX5_passBeat, Cond.selects RX5 yX5_passBeat yX5_passBeat, Cond.code yX5_passBeat cX5_passBeat 2 none, Cond.fieldLink RX5 273 "SwitchFloor$Tree" "caught" "[Z", Cond.fieldLink RX5 276 "SwitchFloor$Tree" "stale" "[Z", Cond.methodLink RX5 279 yX2_empty, Cond.instanceMethod yX2_empty, Cond.selects RX2 yX2_empty yX2_empty, Cond.code yX2_empty cX2_empty 4 none, Cond.methodLink RX5 282 yX2_dropOld, Cond.instanceMethod yX2_dropOld, Cond.selects RX2 yX2_dropOld yX2_dropOld, Cond.code yX2_dropOld cX2_dropOld 3 none, Cond.methodLink RL 49 yX5_send, Cond.instanceMethod yX5_send, Cond.selects RX5 yX5_send yX5_send, Cond.code yX5_send cX5_send 8 (some .int)]
def wsL_law0_r15 : List Cond := [Cond.fieldLink RX5 174 "SwitchFloor$Steps" "size" "I", Cond.methodLink RX5 167 yX1_restart, Cond.instanceMethod yX1_restart, Cond.selects RX1 yX1_restart yX1_restart, Cond.code yX1_restart cX1_restart 1 none, Cond.fieldLink RX1 24 "SwitchFloor$Steps" "size" "I", Cond.methodLink RX5 170 yX1_add, Cond.instanceMethod yX1_add, Cond.selects RX1 yX1_add yX1_add, Cond.code yX1_add cX1_add 5 none, Cond.methodLink RX5 177 yX5_takeStep, Cond.instanceMethod yX5_takeStep, Cond.selects RX5 yX5_takeStep yX5_takeStep, Cond.code yX5_takeStep cX5_takeStep 9 (some .int), Cond.fieldLink RX5 291 "SwitchFloor$Steps" "spot" "[I", Cond.fieldLink RX5 294 "SwitchFloor$Steps" "tag" "[I", Cond.fieldLink RX5 198 "SwitchFloor$Tree" "open" "[Z", Cond.methodLink RX5 239 yX5_laneLetIn, Cond.instanceMethod yX5_laneLetIn, Cond.selects RX5 yX5_laneLetIn yX5_laneLetIn, Cond.code yX5_laneLetIn cX5_laneLetIn 3 (some .int), Cond.methodLink RX5 285 yX0_laneIn, Cond.instanceMethod yX0_laneIn, Cond.selects RX0 yX0_laneIn yX0_laneIn]
def wsL_law0_r16 : List Cond := [Cond.code yX0_laneIn cX0_laneIn 4 (some .int), Cond.methodLink RX0 22 yX0_carries, Cond.instanceMethod yX0_carries, Cond.selects RX0 yX0_carries yX0_carries, Cond.code yX0_carries cX0_carries 3 (some .boolean), Cond.methodLink RX0 18 yX0_bitOf, Cond.methodLink RX5 297 yX2_hear, Cond.instanceMethod yX2_hear, Cond.selects RX2 yX2_hear yX2_hear, Cond.code yX2_hear cX2_hear 7 none, Cond.methodLink RX2 21 yX2_indexOf, Cond.static yX2_indexOf, Cond.code yX2_indexOf cX2_indexOf 3 (some .int), Cond.methodLink RX5 207 yX2_portFor, Cond.instanceMethod yX2_portFor, Cond.selects RX2 yX2_portFor yX2_portFor, Cond.code yX2_portFor cX2_portFor 4 (some .int), Cond.methodLink RX5 300 yX5_flood, Cond.instanceMethod yX5_flood, Cond.selects RX5 yX5_flood yX5_flood, Cond.code yX5_flood cX5_flood 8 (some .int), Cond.methodLink RX5 303 yX5_goOut, Cond.instanceMethod yX5_goOut, Cond.selects RX5 yX5_goOut yX5_goOut]
def wsL_law0_r17 : List Cond := [Cond.code yX5_goOut cX5_goOut 9 (some .int), Cond.fieldLink RX5 245 "SwitchFloor$Wiring" "house" "[I", Cond.fieldLink RX5 310 "SwitchFloor$Steps" "hops" "[I", Cond.fieldLink RX5 311 "SwitchFloor$Steps" "second" "[I", Cond.methodLink RX5 288 yX0_carries, Cond.methodLink RX5 307 yX5_handOver, Cond.instanceMethod yX5_handOver, Cond.selects RX5 yX5_handOver yX5_handOver, Cond.code yX5_handOver cX5_handOver 3 (some .int), Cond.methodLink RX5 248 yX0_tagOut, Cond.instanceMethod yX0_tagOut, Cond.selects RX0 yX0_tagOut yX0_tagOut, Cond.code yX0_tagOut cX0_tagOut 3 (some .int), Cond.methodLink RL 53 yX5_holds, Cond.instanceMethod yX5_holds, Cond.selects RX5 yX5_holds yX5_holds, Cond.code yX5_holds cX5_holds 3 (some .int), Cond.fieldLink RX5 181 "SwitchFloor$Tree" "root" "[I", Cond.fieldLink RX5 184 "SwitchFloor$Tree" "cost" "[I", Cond.fieldLink RX5 187 "SwitchFloor$Tree" "hops" "[I", Cond.fieldLink RX5 190 "SwitchFloor$Tree" "rootPort" "[I", Cond.fieldLink RX5 193 "SwitchFloor$Tables" "entries" "[I", Cond.methodLink RL 56 yX5_port, Cond.instanceMethod yX5_port]
def wsL_law0_r18 : List Cond := [Cond.selects RX5 yX5_port yX5_port, Cond.code yX5_port cX5_port 5 (some .int), Cond.fieldLink RX5 202 "SwitchFloor$Tree" "role" "[I", Cond.methodLink RL 59 yX5_table, Cond.instanceMethod yX5_table, Cond.selects RX5 yX5_table yX5_table, Cond.code yX5_table cX5_table 4 (some .int), Cond.methodLink RL 62 yX5_got, Cond.instanceMethod yX5_got, Cond.selects RX5 yX5_got yX5_got, Cond.code yX5_got cX5_got 3 (some .int), Cond.methodLink RL 66 yX5_found, Cond.instanceMethod yX5_found, Cond.selects RX5 yX5_found yX5_found, Cond.code yX5_found cX5_found 4 (some .int), Cond.fieldLink RX5 228 "SwitchFloor$Tree" "way" "[I", Cond.methodLink RX5 225 yX3_measureWays, Cond.instanceMethod yX3_measureWays, Cond.selects RX3 yX3_measureWays yX3_measureWays, Cond.code yX3_measureWays cX3_measureWays 4 none, Cond.methodLink RX3 139 yX3_shorten, Cond.instanceMethod yX3_shorten, Cond.selects RX3 yX3_shorten yX3_shorten, Cond.code yX3_shorten cX3_shorten 3 none]
def wsL_law0_r19 : List Cond := [Cond.methodLink RX5 231 yX4_isBetterName, Cond.methodLink RL 69 yX5_walk, Cond.instanceMethod yX5_walk, Cond.selects RX5 yX5_walk yX5_walk, Cond.code yX5_walk cX5_walk 8 (some .int), Cond.methodLink RX5 242 yX5_wayTold, Cond.instanceMethod yX5_wayTold, Cond.selects RX5 yX5_wayTold yX5_wayTold, Cond.code yX5_wayTold cX5_wayTold 6 (some .int), Cond.methodLink RL 107 yL_part, Cond.static yL_part, Cond.code yL_part cL_part 4 (some .int), Cond.constant RL 7 (2147483647), Cond.methodLink RL 113 yL_isPort, Cond.static yL_isPort, Cond.code yL_isPort cL_isPort 14 (some .boolean), Cond.methodLink RL 117 yL_isSent, Cond.static yL_isSent, Cond.code yL_isSent cL_isSent 13 (some .boolean), Cond.methodLink RL 121 yL_areAll, Cond.static yL_areAll, Cond.code yL_areAll cL_areAll 14 (some .boolean), Cond.methodLink RL 95 yL_found, Cond.static yL_found]
def wsL_law0_r20 : List Cond := [Cond.code yL_found cL_found 9 (some .int), Cond.constant RL 86 (100000), Cond.methodLink RL 87 yL_isPassable, Cond.static yL_isPassable, Cond.code yL_isPassable cL_isPassable 3 (some .boolean), Cond.methodLink RL 91 yL_isBetter, Cond.static yL_isBetter, Cond.code yL_isBetter cL_isBetter 3 (some .boolean), Cond.methodLink RL 125 yL_isTree, Cond.static yL_isTree, Cond.code yL_isTree cL_isTree 11 (some .boolean)]
def wsL_law0 : List Cond := (wsL_law0_r1 ++ (wsL_law0_r2 ++ (wsL_law0_r3 ++ (wsL_law0_r4 ++ (wsL_law0_r5 ++ (wsL_law0_r6 ++ (wsL_law0_r7 ++ (wsL_law0_r8 ++ (wsL_law0_r9 ++ (wsL_law0_r10 ++ (wsL_law0_r11 ++ (wsL_law0_r12 ++ (wsL_law0_r13 ++ (wsL_law0_r14 ++ (wsL_law0_r15 ++ (wsL_law0_r16 ++ (wsL_law0_r17 ++ (wsL_law0_r18 ++ (wsL_law0_r19 ++ wsL_law0_r20))))))))))))))))))) ++ wsX50 ++ wsX40 ++ wsX30 ++ wsX00 ++ wsX20 ++ wsX10 ++ ([] : List Cond)
def wsL_law : List Cond := wsL_law0 ++ (vx_atS RX5 71 "java/lang/IllegalArgumentException" ["java/lang/RuntimeException", "java/lang/Exception"]).filter goodWord ++ (vx_atS RX5 90 "java/lang/IllegalStateException" ["java/lang/RuntimeException", "java/lang/Exception"]).filter goodWord ++ (vx_atS RX5 255 "java/lang/IndexOutOfBoundsException" ["java/lang/RuntimeException", "java/lang/Exception"]).filter goodWord
set_option maxRecDepth 20000 in
abbrev vwCl : List vw_C := [(RX0, TX0, 2), (RX1, TX1, 5), (RX2, TX2, 3), (RX3, TX3, 16), (RX4, TX4, 8), (RX5, TX5, 10)]
end
section
theorem wsL_in_r1 : ∀ w ∈ wsL_law0_r1, w ∈ lw_tbl := by decide +kernel
theorem wsL_in_r2 : ∀ w ∈ wsL_law0_r2, w ∈ lw_tbl := by decide +kernel
theorem wsL_in_r3 : ∀ w ∈ wsL_law0_r3, w ∈ lw_tbl := by decide +kernel
theorem wsL_in_r4 : ∀ w ∈ wsL_law0_r4, w ∈ lw_tbl := by decide +kernel
theorem wsL_in_r5 : ∀ w ∈ wsL_law0_r5, w ∈ lw_tbl := by decide +kernel
theorem wsL_in_r6 : ∀ w ∈ wsL_law0_r6, w ∈ lw_tbl := by decide +kernel
theorem wsL_in_r7 : ∀ w ∈ wsL_law0_r7, w ∈ lw_tbl := by decide +kernel
theorem wsL_in_r8 : ∀ w ∈ wsL_law0_r8, w ∈ lw_tbl := by decide +kernel
end
section
theorem wsL_in_r9 : ∀ w ∈ wsL_law0_r9, w ∈ lw_tbl := by decide +kernel
theorem wsL_in_r10 : ∀ w ∈ wsL_law0_r10, w ∈ lw_tbl := by decide +kernel
theorem wsL_in_r11 : ∀ w ∈ wsL_law0_r11, w ∈ lw_tbl := by decide +kernel
theorem wsL_in_r12 : ∀ w ∈ wsL_law0_r12, w ∈ lw_tbl := (List.forall_mem_cons.mpr ⟨(by decide +kernel), (List.forall_mem_cons.mpr ⟨(by decide +kernel), (List.forall_mem_cons.mpr ⟨(by decide +kernel), (List.forall_mem_cons.mpr ⟨(by decide +kernel), (List.forall_mem_cons.mpr ⟨(by decide +kernel), (List.forall_mem_cons.mpr ⟨(by decide +kernel), (List.forall_mem_cons.mpr ⟨(by decide +kernel), (List.forall_mem_cons.mpr ⟨(by decide +kernel), (List.forall_mem_cons.mpr ⟨(by decide +kernel), (List.forall_mem_cons.mpr ⟨(by decide +kernel), (List.forall_mem_cons.mpr ⟨(by decide +kernel), (List.forall_mem_cons.mpr ⟨(by decide +kernel), (List.forall_mem_cons.mpr ⟨(by decide +kernel), (List.forall_mem_cons.mpr ⟨(by decide +kernel), (List.forall_mem_cons.mpr ⟨(by decide +kernel), (List.forall_mem_cons.mpr ⟨(by decide +kernel), (List.forall_mem_cons.mpr ⟨(by decide +kernel), (List.forall_mem_cons.mpr ⟨(by decide +kernel), (List.forall_mem_cons.mpr ⟨(by decide +kernel), (List.forall_mem_cons.mpr ⟨(by decide +kernel), (List.forall_mem_cons.mpr ⟨(by decide +kernel), (List.forall_mem_cons.mpr ⟨(by decide +kernel), (List.forall_mem_cons.mpr ⟨(by decide +kernel), (List.forall_mem_cons.mpr ⟨(List.mem_of_getElem? (i := 551) rfl), (fun _ h => absurd h List.not_mem_nil)⟩)⟩)⟩)⟩)⟩)⟩)⟩)⟩)⟩)⟩)⟩)⟩)⟩)⟩)⟩)⟩)⟩)⟩)⟩)⟩)⟩)⟩)⟩)⟩)
theorem wsL_in_r13 : ∀ w ∈ wsL_law0_r13, w ∈ lw_tbl := (List.forall_mem_cons.mpr ⟨(by decide +kernel), (List.forall_mem_cons.mpr ⟨(by decide +kernel), (List.forall_mem_cons.mpr ⟨(by decide +kernel), (List.forall_mem_cons.mpr ⟨(by decide +kernel), (List.forall_mem_cons.mpr ⟨(by decide +kernel), (List.forall_mem_cons.mpr ⟨(by decide +kernel), (List.forall_mem_cons.mpr ⟨(by decide +kernel), (List.forall_mem_cons.mpr ⟨(by decide +kernel), (List.forall_mem_cons.mpr ⟨(by decide +kernel), (List.forall_mem_cons.mpr ⟨(by decide +kernel), (List.forall_mem_cons.mpr ⟨(by decide +kernel), (List.forall_mem_cons.mpr ⟨(by decide +kernel), (List.forall_mem_cons.mpr ⟨(by decide +kernel), (List.forall_mem_cons.mpr ⟨(by decide +kernel), (List.forall_mem_cons.mpr ⟨(by decide +kernel), (List.forall_mem_cons.mpr ⟨(by decide +kernel), (List.forall_mem_cons.mpr ⟨(List.mem_of_getElem? (i := 569) rfl), (List.forall_mem_cons.mpr ⟨(by decide +kernel), (List.forall_mem_cons.mpr ⟨(by decide +kernel), (List.forall_mem_cons.mpr ⟨(by decide +kernel), (List.forall_mem_cons.mpr ⟨(by decide +kernel), (List.forall_mem_cons.mpr ⟨(by decide +kernel), (List.forall_mem_cons.mpr ⟨(by decide +kernel), (List.forall_mem_cons.mpr ⟨(by decide +kernel), (fun _ h => absurd h List.not_mem_nil)⟩)⟩)⟩)⟩)⟩)⟩)⟩)⟩)⟩)⟩)⟩)⟩)⟩)⟩)⟩)⟩)⟩)⟩)⟩)⟩)⟩)⟩)⟩)⟩)
theorem wsL_in_r14 : ∀ w ∈ wsL_law0_r14, w ∈ lw_tbl := by decide +kernel
theorem wsL_in_r15 : ∀ w ∈ wsL_law0_r15, w ∈ lw_tbl := by decide +kernel
theorem wsL_in_r16 : ∀ w ∈ wsL_law0_r16, w ∈ lw_tbl := by decide +kernel
end
section
theorem wsL_in_r17 : ∀ w ∈ wsL_law0_r17, w ∈ lw_tbl := by decide +kernel
theorem wsL_in_r18 : ∀ w ∈ wsL_law0_r18, w ∈ lw_tbl := by decide +kernel
theorem wsL_in_r19 : ∀ w ∈ wsL_law0_r19, w ∈ lw_tbl := (List.forall_mem_cons.mpr ⟨(by decide +kernel), (List.forall_mem_cons.mpr ⟨(by decide +kernel), (List.forall_mem_cons.mpr ⟨(by decide +kernel), (List.forall_mem_cons.mpr ⟨(by decide +kernel), (List.forall_mem_cons.mpr ⟨(by decide +kernel), (List.forall_mem_cons.mpr ⟨(by decide +kernel), (List.forall_mem_cons.mpr ⟨(by decide +kernel), (List.forall_mem_cons.mpr ⟨(by decide +kernel), (List.forall_mem_cons.mpr ⟨(by decide +kernel), (List.forall_mem_cons.mpr ⟨(by decide +kernel), (List.forall_mem_cons.mpr ⟨(by decide +kernel), (List.forall_mem_cons.mpr ⟨(List.mem_of_getElem? (i := 437) rfl), (List.forall_mem_cons.mpr ⟨(by decide +kernel), (List.forall_mem_cons.mpr ⟨(by decide +kernel), (List.forall_mem_cons.mpr ⟨(by decide +kernel), (List.forall_mem_cons.mpr ⟨(List.mem_of_getElem? (i := 692) rfl), (List.forall_mem_cons.mpr ⟨(by decide +kernel), (List.forall_mem_cons.mpr ⟨(by decide +kernel), (List.forall_mem_cons.mpr ⟨(List.mem_of_getElem? (i := 695) rfl), (List.forall_mem_cons.mpr ⟨(by decide +kernel), (List.forall_mem_cons.mpr ⟨(by decide +kernel), (List.forall_mem_cons.mpr ⟨(List.mem_of_getElem? (i := 689) rfl), (List.forall_mem_cons.mpr ⟨(by decide +kernel), (List.forall_mem_cons.mpr ⟨(by decide +kernel), (fun _ h => absurd h List.not_mem_nil)⟩)⟩)⟩)⟩)⟩)⟩)⟩)⟩)⟩)⟩)⟩)⟩)⟩)⟩)⟩)⟩)⟩)⟩)⟩)⟩)⟩)⟩)⟩)⟩)
theorem wsL_in_r20 : ∀ w ∈ wsL_law0_r20, w ∈ lw_tbl := (List.forall_mem_cons.mpr ⟨(List.mem_of_getElem? (i := 679) rfl), (List.forall_mem_cons.mpr ⟨(by decide +kernel), (List.forall_mem_cons.mpr ⟨(by decide +kernel), (List.forall_mem_cons.mpr ⟨(by decide +kernel), (List.forall_mem_cons.mpr ⟨(List.mem_of_getElem? (i := 683) rfl), (List.forall_mem_cons.mpr ⟨(by decide +kernel), (List.forall_mem_cons.mpr ⟨(by decide +kernel), (List.forall_mem_cons.mpr ⟨(List.mem_of_getElem? (i := 686) rfl), (List.forall_mem_cons.mpr ⟨(by decide +kernel), (List.forall_mem_cons.mpr ⟨(by decide +kernel), (List.forall_mem_cons.mpr ⟨(List.mem_of_getElem? (i := 676) rfl), (fun _ h => absurd h List.not_mem_nil)⟩)⟩)⟩)⟩)⟩)⟩)⟩)⟩)⟩)⟩)⟩)
theorem wsL_in_X5 : ∀ w ∈ wsX50, w ∈ lw_tbl := by decide +kernel
theorem wsL_in_X4 : ∀ w ∈ wsX40, w ∈ lw_tbl := by decide +kernel
theorem wsL_in_X3 : ∀ w ∈ wsX30, w ∈ lw_tbl := by decide +kernel
theorem wsL_in_X0 : ∀ w ∈ wsX00, w ∈ lw_tbl := by decide +kernel
end
section
theorem wsL_in_X2 : ∀ w ∈ wsX20, w ∈ lw_tbl := by decide +kernel
theorem wsL_in_X1 : ∀ w ∈ wsX10, w ∈ lw_tbl := by decide +kernel
theorem wsL_law_in0 : ∀ w ∈ wsL_law0, w ∈ lw_tbl := (List.forall_mem_append.mpr ⟨(List.forall_mem_append.mpr ⟨(List.forall_mem_append.mpr ⟨(List.forall_mem_append.mpr ⟨(List.forall_mem_append.mpr ⟨(List.forall_mem_append.mpr ⟨(List.forall_mem_append.mpr ⟨(List.forall_mem_append.mpr ⟨wsL_in_r1, (List.forall_mem_append.mpr ⟨wsL_in_r2, (List.forall_mem_append.mpr ⟨wsL_in_r3, (List.forall_mem_append.mpr ⟨wsL_in_r4, (List.forall_mem_append.mpr ⟨wsL_in_r5, (List.forall_mem_append.mpr ⟨wsL_in_r6, (List.forall_mem_append.mpr ⟨wsL_in_r7, (List.forall_mem_append.mpr ⟨wsL_in_r8, (List.forall_mem_append.mpr ⟨wsL_in_r9, (List.forall_mem_append.mpr ⟨wsL_in_r10, (List.forall_mem_append.mpr ⟨wsL_in_r11, (List.forall_mem_append.mpr ⟨wsL_in_r12, (List.forall_mem_append.mpr ⟨wsL_in_r13, (List.forall_mem_append.mpr ⟨wsL_in_r14, (List.forall_mem_append.mpr ⟨wsL_in_r15, (List.forall_mem_append.mpr ⟨wsL_in_r16, (List.forall_mem_append.mpr ⟨wsL_in_r17, (List.forall_mem_append.mpr ⟨wsL_in_r18, (List.forall_mem_append.mpr ⟨wsL_in_r19, wsL_in_r20⟩)⟩)⟩)⟩)⟩)⟩)⟩)⟩)⟩)⟩)⟩)⟩)⟩)⟩)⟩)⟩)⟩)⟩)⟩), wsL_in_X5⟩), wsL_in_X4⟩), wsL_in_X3⟩), wsL_in_X0⟩), wsL_in_X2⟩), wsL_in_X1⟩), (fun _ h => absurd h List.not_mem_nil)⟩)
theorem wsL_law_x0 : ∀ w ∈ (vx_atS RX5 71 "java/lang/IllegalArgumentException" ["java/lang/RuntimeException", "java/lang/Exception"]).filter goodWord, w ∈ lw_tbl := by decide +kernel
theorem wsL_law_x1 : ∀ w ∈ (vx_atS RX5 90 "java/lang/IllegalStateException" ["java/lang/RuntimeException", "java/lang/Exception"]).filter goodWord, w ∈ lw_tbl := by decide +kernel
theorem wsL_law_x2 : ∀ w ∈ (vx_atS RX5 255 "java/lang/IndexOutOfBoundsException" ["java/lang/RuntimeException", "java/lang/Exception"]).filter goodWord, w ∈ lw_tbl := by decide +kernel
theorem wsL_law_in : ∀ w ∈ wsL_law, w ∈ lw_tbl := fun w h => (List.mem_append.mp h).elim (fun h => (List.mem_append.mp h).elim (fun h => (List.mem_append.mp h).elim (fun h => wsL_law_in0 w h) (fun h => wsL_law_x0 w h)) (fun h => wsL_law_x1 w h)) (fun h => wsL_law_x2 w h)
theorem inlX0 : ∀ w ∈ wsX00, w ∈ wsL_law := fun _ h => List.mem_append_left _ (List.mem_append_left _ (List.mem_append_left _ (List.mem_append_left _ (List.mem_append_left _ (List.mem_append_left _ (List.mem_append_right _ h))))))
theorem inX0 : ∀ w ∈ wsX00, w ∈ lw_tbl := fun w h => wsL_law_in w (inlX0 w h)
theorem inlX1 : ∀ w ∈ wsX10, w ∈ wsL_law := fun _ h => List.mem_append_left _ (List.mem_append_left _ (List.mem_append_left _ (List.mem_append_left _ (List.mem_append_right _ h))))
theorem inX1 : ∀ w ∈ wsX10, w ∈ lw_tbl := fun w h => wsL_law_in w (inlX1 w h)
theorem inlX2 : ∀ w ∈ wsX20, w ∈ wsL_law := fun _ h => List.mem_append_left _ (List.mem_append_left _ (List.mem_append_left _ (List.mem_append_left _ (List.mem_append_left _ (List.mem_append_right _ h)))))
theorem inX2 : ∀ w ∈ wsX20, w ∈ lw_tbl := fun w h => wsL_law_in w (inlX2 w h)
theorem inlX3 : ∀ w ∈ wsX30, w ∈ wsL_law := fun _ h => List.mem_append_left _ (List.mem_append_left _ (List.mem_append_left _ (List.mem_append_left _ (List.mem_append_left _ (List.mem_append_left _ (List.mem_append_left _ (List.mem_append_right _ h)))))))
theorem inX3 : ∀ w ∈ wsX30, w ∈ lw_tbl := fun w h => wsL_law_in w (inlX3 w h)
theorem inlX4 : ∀ w ∈ wsX40, w ∈ wsL_law := fun _ h => List.mem_append_left _ (List.mem_append_left _ (List.mem_append_left _ (List.mem_append_left _ (List.mem_append_left _ (List.mem_append_left _ (List.mem_append_left _ (List.mem_append_left _ (List.mem_append_right _ h))))))))
theorem inX4 : ∀ w ∈ wsX40, w ∈ lw_tbl := fun w h => wsL_law_in w (inlX4 w h)
theorem inlX5 : ∀ w ∈ wsX50, w ∈ wsL_law := fun _ h => List.mem_append_left _ (List.mem_append_left _ (List.mem_append_left _ (List.mem_append_left _ (List.mem_append_left _ (List.mem_append_left _ (List.mem_append_left _ (List.mem_append_left _ (List.mem_append_left _ (List.mem_append_right _ h)))))))))
theorem inX5 : ∀ w ∈ wsX50, w ∈ lw_tbl := fun w h => wsL_law_in w (inlX5 w h)
theorem inX6 : ∀ w ∈ wsX60, w ∈ lw_tbl := by decide +kernel
theorem inJ0 : ∀ w ∈ wsJ00, w ∈ lw_tbl := by decide +kernel
end
section
theorem dX0_init_0 : decode cX0_init 0 = .ok (.aload_n 0, 1) := by decide +kernel
theorem dX0_init_1 : decode cX0_init 1 = .ok (.invokespecial 3, 3) := by decide +kernel
theorem dX0_init_4 : decode cX0_init 4 = .ok (.aload_n 0, 1) := by decide +kernel
theorem dX0_init_5 : decode cX0_init 5 = .ok (.bipush 30, 2) := by decide +kernel
theorem dX0_init_7 : decode cX0_init 7 = .ok (.newarray .int, 2) := by decide +kernel
theorem dX0_init_9 : decode cX0_init 9 = .ok (.putfield 9, 3) := by decide +kernel
theorem dX0_init_12 : decode cX0_init 12 = .ok (.aload_n 0, 1) := by decide +kernel
theorem dX0_init_13 : decode cX0_init 13 = .ok (.bipush 30, 2) := by decide +kernel
theorem dX0_init_15 : decode cX0_init 15 = .ok (.newarray .int, 2) := by decide +kernel
theorem dX0_init_17 : decode cX0_init 17 = .ok (.putfield 15, 3) := by decide +kernel
theorem dX0_init_20 : decode cX0_init 20 = .ok (.iconst 0, 1) := by decide +kernel
theorem dX0_init_21 : decode cX0_init 21 = .ok (.istore_n 1, 1) := by decide +kernel
theorem dX0_init_22 : decode cX0_init 22 = .ok (.iload_n 1, 1) := by decide +kernel
theorem dX0_init_23 : decode cX0_init 23 = .ok (.bipush 30, 2) := by decide +kernel
theorem dX0_init_25 : decode cX0_init 25 = .ok (.if_icmp .ge 23, 3) := by decide +kernel
theorem dX0_init_28 : decode cX0_init 28 = .ok (.aload_n 0, 1) := by decide +kernel
theorem dX0_init_29 : decode cX0_init 29 = .ok (.getfield 9, 3) := by decide +kernel
theorem dX0_init_32 : decode cX0_init 32 = .ok (.iload_n 1, 1) := by decide +kernel
theorem dX0_init_33 : decode cX0_init 33 = .ok (.iconst 1, 1) := by decide +kernel
theorem dX0_init_34 : decode cX0_init 34 = .ok (.iastore, 1) := by decide +kernel
theorem dX0_init_35 : decode cX0_init 35 = .ok (.aload_n 0, 1) := by decide +kernel
theorem dX0_init_36 : decode cX0_init 36 = .ok (.getfield 15, 3) := by decide +kernel
theorem dX0_init_39 : decode cX0_init 39 = .ok (.iload_n 1, 1) := by decide +kernel
theorem dX0_init_40 : decode cX0_init 40 = .ok (.iconst 1, 1) := by decide +kernel
theorem dX0_init_41 : decode cX0_init 41 = .ok (.iastore, 1) := by decide +kernel
theorem dX0_init_42 : decode cX0_init 42 = .ok (.iinc 1 1, 3) := by decide +kernel
theorem dX0_init_45 : decode cX0_init 45 = .ok (.goto (-23), 3) := by decide +kernel
theorem dX0_init_48 : decode cX0_init 48 = .ok (.return_, 1) := by decide +kernel
theorem dX0_bitOf_0 : decode cX0_bitOf 0 = .ok (.iconst 1, 1) := by decide +kernel
theorem dX0_bitOf_1 : decode cX0_bitOf 1 = .ok (.iload_n 0, 1) := by decide +kernel
theorem dX0_bitOf_2 : decode cX0_bitOf 2 = .ok (.iconst 1, 1) := by decide +kernel
theorem dX0_bitOf_3 : decode cX0_bitOf 3 = .ok (.isub, 1) := by decide +kernel
theorem dX0_bitOf_4 : decode cX0_bitOf 4 = .ok (.ishl, 1) := by decide +kernel
theorem dX0_bitOf_5 : decode cX0_bitOf 5 = .ok (.ireturn, 1) := by decide +kernel
theorem dX0_setUp_0 : decode cX0_setUp 0 = .ok (.aload_n 0, 1) := by decide +kernel
theorem dX0_setUp_1 : decode cX0_setUp 1 = .ok (.getfield 9, 3) := by decide +kernel
theorem dX0_setUp_4 : decode cX0_setUp 4 = .ok (.iload_n 1, 1) := by decide +kernel
theorem dX0_setUp_5 : decode cX0_setUp 5 = .ok (.iload_n 2, 1) := by decide +kernel
theorem dX0_setUp_6 : decode cX0_setUp 6 = .ok (.iastore, 1) := by decide +kernel
theorem dX0_setUp_7 : decode cX0_setUp 7 = .ok (.aload_n 0, 1) := by decide +kernel
theorem dX0_setUp_8 : decode cX0_setUp 8 = .ok (.getfield 15, 3) := by decide +kernel
theorem dX0_setUp_11 : decode cX0_setUp 11 = .ok (.iload_n 1, 1) := by decide +kernel
theorem dX0_setUp_12 : decode cX0_setUp 12 = .ok (.iload_n 3, 1) := by decide +kernel
theorem dX0_setUp_13 : decode cX0_setUp 13 = .ok (.iastore, 1) := by decide +kernel
theorem dX0_setUp_14 : decode cX0_setUp 14 = .ok (.return_, 1) := by decide +kernel
set_option maxRecDepth 20000 in
theorem ggX0_carries_X0_bitOf : GoodIn wsX0_carries wsX0_bitOf := goodIn_r _ [5] (by decide +kernel) (by decide +kernel)
set_option maxRecDepth 20000 in
theorem gX0_carries_X0_bitOf : GoodIn wsX0_carries (va_wsS RX0 18 yX0_bitOf wsX0_bitOf) := goodIn_app (goodIn_of _ (by decide +kernel)) ggX0_carries_X0_bitOf
theorem dX0_carries_0 : decode cX0_carries 0 = .ok (.aload_n 0, 1) := by decide +kernel
theorem dX0_carries_1 : decode cX0_carries 1 = .ok (.getfield 9, 3) := by decide +kernel
theorem dX0_carries_4 : decode cX0_carries 4 = .ok (.iload_n 1, 1) := by decide +kernel
theorem dX0_carries_5 : decode cX0_carries 5 = .ok (.iaload, 1) := by decide +kernel
theorem dX0_carries_6 : decode cX0_carries 6 = .ok (.iload_n 2, 1) := by decide +kernel
theorem dX0_carries_7 : decode cX0_carries 7 = .ok (.invokestatic 18, 3) := by decide +kernel
theorem dX0_carries_10 : decode cX0_carries 10 = .ok (.iand, 1) := by decide +kernel
theorem dX0_carries_11 : decode cX0_carries 11 = .ok (.ifCond .eq 7, 3) := by decide +kernel
theorem dX0_carries_14 : decode cX0_carries 14 = .ok (.iconst 1, 1) := by decide +kernel
theorem dX0_carries_15 : decode cX0_carries 15 = .ok (.goto 4, 3) := by decide +kernel
theorem dX0_carries_18 : decode cX0_carries 18 = .ok (.iconst 0, 1) := by decide +kernel
theorem dX0_carries_19 : decode cX0_carries 19 = .ok (.ireturn, 1) := by decide +kernel
set_option maxRecDepth 20000 in
theorem ggX0_laneIn_X0_carries : GoodIn wsX0_laneIn wsX0_carries := goodIn_r _ [6, 7, 8, 9, 5, 10, 11, 12] (by decide +kernel) (by decide +kernel)
set_option maxRecDepth 20000 in
theorem gX0_laneIn_X0_carries : GoodIn wsX0_laneIn (wsV RX0 22 RX0 yX0_carries wsX0_carries) := goodIn_app (goodIn_of _ (by decide +kernel)) ggX0_laneIn_X0_carries
theorem dX0_laneIn_0 : decode cX0_laneIn 0 = .ok (.iload_n 2, 1) := by decide +kernel
theorem dX0_laneIn_1 : decode cX0_laneIn 1 = .ok (.ifCond .ne 12, 3) := by decide +kernel
theorem dX0_laneIn_4 : decode cX0_laneIn 4 = .ok (.aload_n 0, 1) := by decide +kernel
theorem dX0_laneIn_5 : decode cX0_laneIn 5 = .ok (.getfield 15, 3) := by decide +kernel
theorem dX0_laneIn_8 : decode cX0_laneIn 8 = .ok (.iload_n 1, 1) := by decide +kernel
theorem dX0_laneIn_9 : decode cX0_laneIn 9 = .ok (.iaload, 1) := by decide +kernel
theorem dX0_laneIn_10 : decode cX0_laneIn 10 = .ok (.goto 4, 3) := by decide +kernel
theorem dX0_laneIn_13 : decode cX0_laneIn 13 = .ok (.iload_n 2, 1) := by decide +kernel
theorem dX0_laneIn_14 : decode cX0_laneIn 14 = .ok (.istore_n 3, 1) := by decide +kernel
theorem dX0_laneIn_15 : decode cX0_laneIn 15 = .ok (.aload_n 0, 1) := by decide +kernel
theorem dX0_laneIn_16 : decode cX0_laneIn 16 = .ok (.iload_n 1, 1) := by decide +kernel
theorem dX0_laneIn_17 : decode cX0_laneIn 17 = .ok (.iload_n 3, 1) := by decide +kernel
theorem dX0_laneIn_18 : decode cX0_laneIn 18 = .ok (.invokevirtual 22, 3) := by decide +kernel
theorem dX0_laneIn_21 : decode cX0_laneIn 21 = .ok (.ifCond .eq 7, 3) := by decide +kernel
theorem dX0_laneIn_24 : decode cX0_laneIn 24 = .ok (.iload_n 3, 1) := by decide +kernel
theorem dX0_laneIn_25 : decode cX0_laneIn 25 = .ok (.goto 4, 3) := by decide +kernel
theorem dX0_laneIn_28 : decode cX0_laneIn 28 = .ok (.iconst 0, 1) := by decide +kernel
theorem dX0_laneIn_29 : decode cX0_laneIn 29 = .ok (.ireturn, 1) := by decide +kernel
theorem dX0_tagOut_0 : decode cX0_tagOut 0 = .ok (.iload_n 2, 1) := by decide +kernel
theorem dX0_tagOut_1 : decode cX0_tagOut 1 = .ok (.aload_n 0, 1) := by decide +kernel
theorem dX0_tagOut_2 : decode cX0_tagOut 2 = .ok (.getfield 15, 3) := by decide +kernel
theorem dX0_tagOut_5 : decode cX0_tagOut 5 = .ok (.iload_n 1, 1) := by decide +kernel
theorem dX0_tagOut_6 : decode cX0_tagOut 6 = .ok (.iaload, 1) := by decide +kernel
theorem dX0_tagOut_7 : decode cX0_tagOut 7 = .ok (.if_icmp .ne 7, 3) := by decide +kernel
theorem dX0_tagOut_10 : decode cX0_tagOut 10 = .ok (.iconst 0, 1) := by decide +kernel
theorem dX0_tagOut_11 : decode cX0_tagOut 11 = .ok (.goto 4, 3) := by decide +kernel
theorem dX0_tagOut_14 : decode cX0_tagOut 14 = .ok (.iload_n 2, 1) := by decide +kernel
theorem dX0_tagOut_15 : decode cX0_tagOut 15 = .ok (.ireturn, 1) := by decide +kernel
theorem dX1_init_0 : decode cX1_init 0 = .ok (.aload_n 0, 1) := by decide +kernel
theorem dX1_init_1 : decode cX1_init 1 = .ok (.invokespecial 3, 3) := by decide +kernel
theorem dX1_init_4 : decode cX1_init 4 = .ok (.aload_n 0, 1) := by decide +kernel
theorem dX1_init_5 : decode cX1_init 5 = .ok (.sipush 400, 3) := by decide +kernel
theorem dX1_init_8 : decode cX1_init 8 = .ok (.newarray .int, 2) := by decide +kernel
theorem dX1_init_10 : decode cX1_init 10 = .ok (.putfield 9, 3) := by decide +kernel
theorem dX1_init_13 : decode cX1_init 13 = .ok (.aload_n 0, 1) := by decide +kernel
theorem dX1_init_14 : decode cX1_init 14 = .ok (.sipush 400, 3) := by decide +kernel
theorem dX1_init_17 : decode cX1_init 17 = .ok (.newarray .int, 2) := by decide +kernel
theorem dX1_init_19 : decode cX1_init 19 = .ok (.putfield 15, 3) := by decide +kernel
theorem dX1_init_22 : decode cX1_init 22 = .ok (.aload_n 0, 1) := by decide +kernel
theorem dX1_init_23 : decode cX1_init 23 = .ok (.sipush 400, 3) := by decide +kernel
theorem dX1_init_26 : decode cX1_init 26 = .ok (.newarray .int, 2) := by decide +kernel
theorem dX1_init_28 : decode cX1_init 28 = .ok (.putfield 18, 3) := by decide +kernel
theorem dX1_init_31 : decode cX1_init 31 = .ok (.aload_n 0, 1) := by decide +kernel
theorem dX1_init_32 : decode cX1_init 32 = .ok (.sipush 400, 3) := by decide +kernel
theorem dX1_init_35 : decode cX1_init 35 = .ok (.newarray .int, 2) := by decide +kernel
theorem dX1_init_37 : decode cX1_init 37 = .ok (.putfield 21, 3) := by decide +kernel
theorem dX1_init_40 : decode cX1_init 40 = .ok (.return_, 1) := by decide +kernel
theorem dX1_restart_0 : decode cX1_restart 0 = .ok (.aload_n 0, 1) := by decide +kernel
theorem dX1_restart_1 : decode cX1_restart 1 = .ok (.iconst 0, 1) := by decide +kernel
theorem dX1_restart_2 : decode cX1_restart 2 = .ok (.putfield 24, 3) := by decide +kernel
theorem dX1_restart_5 : decode cX1_restart 5 = .ok (.return_, 1) := by decide +kernel
theorem dX1_add_0 : decode cX1_add 0 = .ok (.aload_n 0, 1) := by decide +kernel
theorem dX1_add_1 : decode cX1_add 1 = .ok (.getfield 24, 3) := by decide +kernel
theorem dX1_add_4 : decode cX1_add 4 = .ok (.sipush 400, 3) := by decide +kernel
theorem dX1_add_7 : decode cX1_add 7 = .ok (.if_icmp .lt 4, 3) := by decide +kernel
theorem dX1_add_10 : decode cX1_add 10 = .ok (.return_, 1) := by decide +kernel
theorem dX1_add_11 : decode cX1_add 11 = .ok (.aload_n 0, 1) := by decide +kernel
theorem dX1_add_12 : decode cX1_add 12 = .ok (.getfield 9, 3) := by decide +kernel
theorem dX1_add_15 : decode cX1_add 15 = .ok (.aload_n 0, 1) := by decide +kernel
theorem dX1_add_16 : decode cX1_add 16 = .ok (.getfield 24, 3) := by decide +kernel
theorem dX1_add_19 : decode cX1_add 19 = .ok (.iload_n 1, 1) := by decide +kernel
theorem dX1_add_20 : decode cX1_add 20 = .ok (.iastore, 1) := by decide +kernel
theorem dX1_add_21 : decode cX1_add 21 = .ok (.aload_n 0, 1) := by decide +kernel
theorem dX1_add_22 : decode cX1_add 22 = .ok (.getfield 15, 3) := by decide +kernel
theorem dX1_add_25 : decode cX1_add 25 = .ok (.aload_n 0, 1) := by decide +kernel
theorem dX1_add_26 : decode cX1_add 26 = .ok (.getfield 24, 3) := by decide +kernel
theorem dX1_add_29 : decode cX1_add 29 = .ok (.iload_n 2, 1) := by decide +kernel
theorem dX1_add_30 : decode cX1_add 30 = .ok (.iastore, 1) := by decide +kernel
theorem dX1_add_31 : decode cX1_add 31 = .ok (.aload_n 0, 1) := by decide +kernel
theorem dX1_add_32 : decode cX1_add 32 = .ok (.getfield 18, 3) := by decide +kernel
theorem dX1_add_35 : decode cX1_add 35 = .ok (.aload_n 0, 1) := by decide +kernel
theorem dX1_add_36 : decode cX1_add 36 = .ok (.getfield 24, 3) := by decide +kernel
theorem dX1_add_39 : decode cX1_add 39 = .ok (.iload_n 3, 1) := by decide +kernel
theorem dX1_add_40 : decode cX1_add 40 = .ok (.iastore, 1) := by decide +kernel
theorem dX1_add_41 : decode cX1_add 41 = .ok (.aload_n 0, 1) := by decide +kernel
theorem dX1_add_42 : decode cX1_add 42 = .ok (.getfield 21, 3) := by decide +kernel
theorem dX1_add_45 : decode cX1_add 45 = .ok (.aload_n 0, 1) := by decide +kernel
theorem dX1_add_46 : decode cX1_add 46 = .ok (.getfield 24, 3) := by decide +kernel
theorem dX1_add_49 : decode cX1_add 49 = .ok (.iload 4, 2) := by decide +kernel
theorem dX1_add_51 : decode cX1_add 51 = .ok (.iastore, 1) := by decide +kernel
theorem dX1_add_52 : decode cX1_add 52 = .ok (.aload_n 0, 1) := by decide +kernel
theorem dX1_add_53 : decode cX1_add 53 = .ok (.dup, 1) := by decide +kernel
theorem dX1_add_54 : decode cX1_add 54 = .ok (.getfield 24, 3) := by decide +kernel
theorem dX1_add_57 : decode cX1_add 57 = .ok (.iconst 1, 1) := by decide +kernel
theorem dX1_add_58 : decode cX1_add 58 = .ok (.iadd, 1) := by decide +kernel
theorem dX1_add_59 : decode cX1_add 59 = .ok (.putfield 24, 3) := by decide +kernel
theorem dX1_add_62 : decode cX1_add 62 = .ok (.return_, 1) := by decide +kernel
theorem dX2_init_0 : decode cX2_init 0 = .ok (.aload_n 0, 1) := by decide +kernel
theorem dX2_init_1 : decode cX2_init 1 = .ok (.invokespecial 3, 3) := by decide +kernel
theorem dX2_init_4 : decode cX2_init 4 = .ok (.aload_n 0, 1) := by decide +kernel
theorem dX2_init_5 : decode cX2_init 5 = .ok (.sipush 180, 3) := by decide +kernel
theorem dX2_init_8 : decode cX2_init 8 = .ok (.newarray .int, 2) := by decide +kernel
theorem dX2_init_10 : decode cX2_init 10 = .ok (.putfield 11, 3) := by decide +kernel
theorem dX2_init_13 : decode cX2_init 13 = .ok (.aload_n 0, 1) := by decide +kernel
theorem dX2_init_14 : decode cX2_init 14 = .ok (.sipush 180, 3) := by decide +kernel
theorem dX2_init_17 : decode cX2_init 17 = .ok (.newarray .int, 2) := by decide +kernel
theorem dX2_init_19 : decode cX2_init 19 = .ok (.putfield 15, 3) := by decide +kernel
theorem dX2_init_22 : decode cX2_init 22 = .ok (.aload_n 0, 1) := by decide +kernel
theorem dX2_init_23 : decode cX2_init 23 = .ok (.bipush 6, 2) := by decide +kernel
theorem dX2_init_25 : decode cX2_init 25 = .ok (.newarray .int, 2) := by decide +kernel
theorem dX2_init_27 : decode cX2_init 27 = .ok (.putfield 18, 3) := by decide +kernel
theorem dX2_init_30 : decode cX2_init 30 = .ok (.iconst 0, 1) := by decide +kernel
theorem dX2_init_31 : decode cX2_init 31 = .ok (.istore_n 1, 1) := by decide +kernel
theorem dX2_init_32 : decode cX2_init 32 = .ok (.iload_n 1, 1) := by decide +kernel
theorem dX2_init_33 : decode cX2_init 33 = .ok (.sipush 180, 3) := by decide +kernel
theorem dX2_init_36 : decode cX2_init 36 = .ok (.if_icmp .ge 16, 3) := by decide +kernel
theorem dX2_init_39 : decode cX2_init 39 = .ok (.aload_n 0, 1) := by decide +kernel
theorem dX2_init_40 : decode cX2_init 40 = .ok (.getfield 11, 3) := by decide +kernel
theorem dX2_init_43 : decode cX2_init 43 = .ok (.iload_n 1, 1) := by decide +kernel
theorem dX2_init_44 : decode cX2_init 44 = .ok (.iconst (-1), 1) := by decide +kernel
theorem dX2_init_45 : decode cX2_init 45 = .ok (.iastore, 1) := by decide +kernel
theorem dX2_init_46 : decode cX2_init 46 = .ok (.iinc 1 1, 3) := by decide +kernel
theorem dX2_init_49 : decode cX2_init 49 = .ok (.goto (-17), 3) := by decide +kernel
theorem dX2_init_52 : decode cX2_init 52 = .ok (.return_, 1) := by decide +kernel
theorem dX2_indexOf_0 : decode cX2_indexOf 0 = .ok (.iload_n 0, 1) := by decide +kernel
theorem dX2_indexOf_1 : decode cX2_indexOf 1 = .ok (.bipush 30, 2) := by decide +kernel
theorem dX2_indexOf_3 : decode cX2_indexOf 3 = .ok (.imul, 1) := by decide +kernel
theorem dX2_indexOf_4 : decode cX2_indexOf 4 = .ok (.iload_n 1, 1) := by decide +kernel
theorem dX2_indexOf_5 : decode cX2_indexOf 5 = .ok (.iconst 1, 1) := by decide +kernel
theorem dX2_indexOf_6 : decode cX2_indexOf 6 = .ok (.isub, 1) := by decide +kernel
theorem dX2_indexOf_7 : decode cX2_indexOf 7 = .ok (.bipush 10, 2) := by decide +kernel
theorem dX2_indexOf_9 : decode cX2_indexOf 9 = .ok (.imul, 1) := by decide +kernel
theorem dX2_indexOf_10 : decode cX2_indexOf 10 = .ok (.iadd, 1) := by decide +kernel
theorem dX2_indexOf_11 : decode cX2_indexOf 11 = .ok (.iload_n 2, 1) := by decide +kernel
theorem dX2_indexOf_12 : decode cX2_indexOf 12 = .ok (.iadd, 1) := by decide +kernel
theorem dX2_indexOf_13 : decode cX2_indexOf 13 = .ok (.ireturn, 1) := by decide +kernel
set_option maxRecDepth 20000 in
theorem ggX2_portFor_X2_indexOf : GoodIn wsX2_portFor wsX2_indexOf := goodIn_r _ [5] (by decide +kernel) (by decide +kernel)
set_option maxRecDepth 20000 in
theorem gX2_portFor_X2_indexOf : GoodIn wsX2_portFor (va_wsS RX2 21 yX2_indexOf wsX2_indexOf) := goodIn_app (goodIn_of _ (by decide +kernel)) ggX2_portFor_X2_indexOf
theorem dX2_portFor_0 : decode cX2_portFor 0 = .ok (.aload_n 0, 1) := by decide +kernel
theorem dX2_portFor_1 : decode cX2_portFor 1 = .ok (.getfield 11, 3) := by decide +kernel
theorem dX2_portFor_4 : decode cX2_portFor 4 = .ok (.iload_n 1, 1) := by decide +kernel
theorem dX2_portFor_5 : decode cX2_portFor 5 = .ok (.iload_n 2, 1) := by decide +kernel
theorem dX2_portFor_6 : decode cX2_portFor 6 = .ok (.iload_n 3, 1) := by decide +kernel
theorem dX2_portFor_7 : decode cX2_portFor 7 = .ok (.invokestatic 21, 3) := by decide +kernel
theorem dX2_portFor_10 : decode cX2_portFor 10 = .ok (.iaload, 1) := by decide +kernel
theorem dX2_portFor_11 : decode cX2_portFor 11 = .ok (.ireturn, 1) := by decide +kernel
set_option maxRecDepth 20000 in
theorem ggX2_hear_X2_indexOf : GoodIn wsX2_hear wsX2_indexOf := goodIn_r _ [7] (by decide +kernel) (by decide +kernel)
set_option maxRecDepth 20000 in
theorem gX2_hear_X2_indexOf : GoodIn wsX2_hear (va_wsS RX2 21 yX2_indexOf wsX2_indexOf) := goodIn_app (goodIn_of _ (by decide +kernel)) ggX2_hear_X2_indexOf
theorem dX2_hear_0 : decode cX2_hear 0 = .ok (.iload_n 1, 1) := by decide +kernel
theorem dX2_hear_1 : decode cX2_hear 1 = .ok (.iconst 5, 1) := by decide +kernel
theorem dX2_hear_2 : decode cX2_hear 2 = .ok (.idiv, 1) := by decide +kernel
theorem dX2_hear_3 : decode cX2_hear 3 = .ok (.istore 5, 2) := by decide +kernel
theorem dX2_hear_5 : decode cX2_hear 5 = .ok (.iload 5, 2) := by decide +kernel
theorem dX2_hear_7 : decode cX2_hear 7 = .ok (.iload_n 2, 1) := by decide +kernel
theorem dX2_hear_8 : decode cX2_hear 8 = .ok (.iload_n 3, 1) := by decide +kernel
theorem dX2_hear_9 : decode cX2_hear 9 = .ok (.invokestatic 21, 3) := by decide +kernel
theorem dX2_hear_12 : decode cX2_hear 12 = .ok (.istore 6, 2) := by decide +kernel
theorem dX2_hear_14 : decode cX2_hear 14 = .ok (.aload_n 0, 1) := by decide +kernel
theorem dX2_hear_15 : decode cX2_hear 15 = .ok (.getfield 11, 3) := by decide +kernel
theorem dX2_hear_18 : decode cX2_hear 18 = .ok (.iload 6, 2) := by decide +kernel
theorem dX2_hear_20 : decode cX2_hear 20 = .ok (.iaload, 1) := by decide +kernel
theorem dX2_hear_21 : decode cX2_hear 21 = .ok (.iconst (-1), 1) := by decide +kernel
theorem dX2_hear_22 : decode cX2_hear 22 = .ok (.if_icmp .ne 27, 3) := by decide +kernel
theorem dX2_hear_25 : decode cX2_hear 25 = .ok (.aload_n 0, 1) := by decide +kernel
theorem dX2_hear_26 : decode cX2_hear 26 = .ok (.getfield 18, 3) := by decide +kernel
theorem dX2_hear_29 : decode cX2_hear 29 = .ok (.iload 5, 2) := by decide +kernel
theorem dX2_hear_31 : decode cX2_hear 31 = .ok (.iaload, 1) := by decide +kernel
theorem dX2_hear_32 : decode cX2_hear 32 = .ok (.bipush 8, 2) := by decide +kernel
theorem dX2_hear_34 : decode cX2_hear 34 = .ok (.if_icmp .lt 4, 3) := by decide +kernel
theorem dX2_hear_37 : decode cX2_hear 37 = .ok (.return_, 1) := by decide +kernel
theorem dX2_hear_38 : decode cX2_hear 38 = .ok (.aload_n 0, 1) := by decide +kernel
theorem dX2_hear_39 : decode cX2_hear 39 = .ok (.getfield 18, 3) := by decide +kernel
theorem dX2_hear_42 : decode cX2_hear 42 = .ok (.iload 5, 2) := by decide +kernel
theorem dX2_hear_44 : decode cX2_hear 44 = .ok (.dup2, 1) := by decide +kernel
theorem dX2_hear_45 : decode cX2_hear 45 = .ok (.iaload, 1) := by decide +kernel
theorem dX2_hear_46 : decode cX2_hear 46 = .ok (.iconst 1, 1) := by decide +kernel
theorem dX2_hear_47 : decode cX2_hear 47 = .ok (.iadd, 1) := by decide +kernel
theorem dX2_hear_48 : decode cX2_hear 48 = .ok (.iastore, 1) := by decide +kernel
theorem dX2_hear_49 : decode cX2_hear 49 = .ok (.aload_n 0, 1) := by decide +kernel
theorem dX2_hear_50 : decode cX2_hear 50 = .ok (.getfield 11, 3) := by decide +kernel
theorem dX2_hear_53 : decode cX2_hear 53 = .ok (.iload 6, 2) := by decide +kernel
theorem dX2_hear_55 : decode cX2_hear 55 = .ok (.iload_n 1, 1) := by decide +kernel
theorem dX2_hear_56 : decode cX2_hear 56 = .ok (.iconst 5, 1) := by decide +kernel
theorem dX2_hear_57 : decode cX2_hear 57 = .ok (.irem, 1) := by decide +kernel
theorem dX2_hear_58 : decode cX2_hear 58 = .ok (.iastore, 1) := by decide +kernel
theorem dX2_hear_59 : decode cX2_hear 59 = .ok (.aload_n 0, 1) := by decide +kernel
theorem dX2_hear_60 : decode cX2_hear 60 = .ok (.getfield 15, 3) := by decide +kernel
theorem dX2_hear_63 : decode cX2_hear 63 = .ok (.iload 6, 2) := by decide +kernel
theorem dX2_hear_65 : decode cX2_hear 65 = .ok (.iload 4, 2) := by decide +kernel
theorem dX2_hear_67 : decode cX2_hear 67 = .ok (.iastore, 1) := by decide +kernel
theorem dX2_hear_68 : decode cX2_hear 68 = .ok (.return_, 1) := by decide +kernel
set_option maxRecDepth 20000 in
theorem ggX2_forgetPort_X2_drop : GoodIn wsX2_forgetPort wsX2_drop := goodIn_r _ [6, 1, 7, 8, 9, 10] (by decide +kernel) (by decide +kernel)
set_option maxRecDepth 20000 in
theorem gX2_forgetPort_X2_drop : GoodIn wsX2_forgetPort (wsV RX2 25 RX2 yX2_drop wsX2_drop) := goodIn_app (goodIn_of _ (by decide +kernel)) ggX2_forgetPort_X2_drop
theorem dX2_forgetPort_0 : decode cX2_forgetPort 0 = .ok (.iload_n 1, 1) := by decide +kernel
theorem dX2_forgetPort_1 : decode cX2_forgetPort 1 = .ok (.iconst 5, 1) := by decide +kernel
theorem dX2_forgetPort_2 : decode cX2_forgetPort 2 = .ok (.idiv, 1) := by decide +kernel
theorem dX2_forgetPort_3 : decode cX2_forgetPort 3 = .ok (.bipush 30, 2) := by decide +kernel
theorem dX2_forgetPort_5 : decode cX2_forgetPort 5 = .ok (.imul, 1) := by decide +kernel
theorem dX2_forgetPort_6 : decode cX2_forgetPort 6 = .ok (.istore_n 2, 1) := by decide +kernel
theorem dX2_forgetPort_7 : decode cX2_forgetPort 7 = .ok (.iload_n 2, 1) := by decide +kernel
theorem dX2_forgetPort_8 : decode cX2_forgetPort 8 = .ok (.istore_n 3, 1) := by decide +kernel
theorem dX2_forgetPort_9 : decode cX2_forgetPort 9 = .ok (.iload_n 3, 1) := by decide +kernel
theorem dX2_forgetPort_10 : decode cX2_forgetPort 10 = .ok (.iload_n 2, 1) := by decide +kernel
theorem dX2_forgetPort_11 : decode cX2_forgetPort 11 = .ok (.bipush 30, 2) := by decide +kernel
theorem dX2_forgetPort_13 : decode cX2_forgetPort 13 = .ok (.iadd, 1) := by decide +kernel
theorem dX2_forgetPort_14 : decode cX2_forgetPort 14 = .ok (.if_icmp .ge 26, 3) := by decide +kernel
theorem dX2_forgetPort_17 : decode cX2_forgetPort 17 = .ok (.aload_n 0, 1) := by decide +kernel
theorem dX2_forgetPort_18 : decode cX2_forgetPort 18 = .ok (.getfield 11, 3) := by decide +kernel
theorem dX2_forgetPort_21 : decode cX2_forgetPort 21 = .ok (.iload_n 3, 1) := by decide +kernel
theorem dX2_forgetPort_22 : decode cX2_forgetPort 22 = .ok (.iaload, 1) := by decide +kernel
theorem dX2_forgetPort_23 : decode cX2_forgetPort 23 = .ok (.iload_n 1, 1) := by decide +kernel
theorem dX2_forgetPort_24 : decode cX2_forgetPort 24 = .ok (.iconst 5, 1) := by decide +kernel
theorem dX2_forgetPort_25 : decode cX2_forgetPort 25 = .ok (.irem, 1) := by decide +kernel
theorem dX2_forgetPort_26 : decode cX2_forgetPort 26 = .ok (.if_icmp .ne 8, 3) := by decide +kernel
theorem dX2_forgetPort_29 : decode cX2_forgetPort 29 = .ok (.aload_n 0, 1) := by decide +kernel
theorem dX2_forgetPort_30 : decode cX2_forgetPort 30 = .ok (.iload_n 3, 1) := by decide +kernel
theorem dX2_forgetPort_31 : decode cX2_forgetPort 31 = .ok (.invokevirtual 25, 3) := by decide +kernel
theorem dX2_forgetPort_34 : decode cX2_forgetPort 34 = .ok (.iinc 3 1, 3) := by decide +kernel
theorem dX2_forgetPort_37 : decode cX2_forgetPort 37 = .ok (.goto (-28), 3) := by decide +kernel
theorem dX2_forgetPort_40 : decode cX2_forgetPort 40 = .ok (.return_, 1) := by decide +kernel
theorem dX2_empty_0 : decode cX2_empty 0 = .ok (.iload_n 1, 1) := by decide +kernel
theorem dX2_empty_1 : decode cX2_empty 1 = .ok (.bipush 30, 2) := by decide +kernel
theorem dX2_empty_3 : decode cX2_empty 3 = .ok (.imul, 1) := by decide +kernel
theorem dX2_empty_4 : decode cX2_empty 4 = .ok (.istore_n 2, 1) := by decide +kernel
theorem dX2_empty_5 : decode cX2_empty 5 = .ok (.iload_n 2, 1) := by decide +kernel
theorem dX2_empty_6 : decode cX2_empty 6 = .ok (.istore_n 3, 1) := by decide +kernel
theorem dX2_empty_7 : decode cX2_empty 7 = .ok (.iload_n 3, 1) := by decide +kernel
theorem dX2_empty_8 : decode cX2_empty 8 = .ok (.iload_n 2, 1) := by decide +kernel
theorem dX2_empty_9 : decode cX2_empty 9 = .ok (.bipush 30, 2) := by decide +kernel
theorem dX2_empty_11 : decode cX2_empty 11 = .ok (.iadd, 1) := by decide +kernel
theorem dX2_empty_12 : decode cX2_empty 12 = .ok (.if_icmp .ge 16, 3) := by decide +kernel
theorem dX2_empty_15 : decode cX2_empty 15 = .ok (.aload_n 0, 1) := by decide +kernel
theorem dX2_empty_16 : decode cX2_empty 16 = .ok (.getfield 11, 3) := by decide +kernel
theorem dX2_empty_19 : decode cX2_empty 19 = .ok (.iload_n 3, 1) := by decide +kernel
theorem dX2_empty_20 : decode cX2_empty 20 = .ok (.iconst (-1), 1) := by decide +kernel
theorem dX2_empty_21 : decode cX2_empty 21 = .ok (.iastore, 1) := by decide +kernel
theorem dX2_empty_22 : decode cX2_empty 22 = .ok (.iinc 3 1, 3) := by decide +kernel
theorem dX2_empty_25 : decode cX2_empty 25 = .ok (.goto (-18), 3) := by decide +kernel
theorem dX2_empty_28 : decode cX2_empty 28 = .ok (.aload_n 0, 1) := by decide +kernel
theorem dX2_empty_29 : decode cX2_empty 29 = .ok (.getfield 18, 3) := by decide +kernel
theorem dX2_empty_32 : decode cX2_empty 32 = .ok (.iload_n 1, 1) := by decide +kernel
theorem dX2_empty_33 : decode cX2_empty 33 = .ok (.iconst 0, 1) := by decide +kernel
theorem dX2_empty_34 : decode cX2_empty 34 = .ok (.iastore, 1) := by decide +kernel
theorem dX2_empty_35 : decode cX2_empty 35 = .ok (.return_, 1) := by decide +kernel
set_option maxRecDepth 20000 in
theorem ggX2_dropOld_X2_drop : GoodIn wsX2_dropOld wsX2_drop := goodIn_r _ [7, 1, 8, 9, 10, 11] (by decide +kernel) (by decide +kernel)
set_option maxRecDepth 20000 in
theorem gX2_dropOld_X2_drop : GoodIn wsX2_dropOld (wsV RX2 25 RX2 yX2_drop wsX2_drop) := goodIn_app (goodIn_of _ (by decide +kernel)) ggX2_dropOld_X2_drop
theorem dX2_dropOld_0 : decode cX2_dropOld 0 = .ok (.iconst 0, 1) := by decide +kernel
theorem dX2_dropOld_1 : decode cX2_dropOld 1 = .ok (.istore_n 2, 1) := by decide +kernel
theorem dX2_dropOld_2 : decode cX2_dropOld 2 = .ok (.iload_n 2, 1) := by decide +kernel
theorem dX2_dropOld_3 : decode cX2_dropOld 3 = .ok (.sipush 180, 3) := by decide +kernel
theorem dX2_dropOld_6 : decode cX2_dropOld 6 = .ok (.if_icmp .ge 37, 3) := by decide +kernel
theorem dX2_dropOld_9 : decode cX2_dropOld 9 = .ok (.aload_n 0, 1) := by decide +kernel
theorem dX2_dropOld_10 : decode cX2_dropOld 10 = .ok (.getfield 11, 3) := by decide +kernel
theorem dX2_dropOld_13 : decode cX2_dropOld 13 = .ok (.iload_n 2, 1) := by decide +kernel
theorem dX2_dropOld_14 : decode cX2_dropOld 14 = .ok (.iaload, 1) := by decide +kernel
theorem dX2_dropOld_15 : decode cX2_dropOld 15 = .ok (.iconst (-1), 1) := by decide +kernel
theorem dX2_dropOld_16 : decode cX2_dropOld 16 = .ok (.if_icmp .eq 21, 3) := by decide +kernel
theorem dX2_dropOld_19 : decode cX2_dropOld 19 = .ok (.iload_n 1, 1) := by decide +kernel
theorem dX2_dropOld_20 : decode cX2_dropOld 20 = .ok (.aload_n 0, 1) := by decide +kernel
theorem dX2_dropOld_21 : decode cX2_dropOld 21 = .ok (.getfield 15, 3) := by decide +kernel
theorem dX2_dropOld_24 : decode cX2_dropOld 24 = .ok (.iload_n 2, 1) := by decide +kernel
theorem dX2_dropOld_25 : decode cX2_dropOld 25 = .ok (.iaload, 1) := by decide +kernel
theorem dX2_dropOld_26 : decode cX2_dropOld 26 = .ok (.isub, 1) := by decide +kernel
theorem dX2_dropOld_27 : decode cX2_dropOld 27 = .ok (.bipush 10, 2) := by decide +kernel
theorem dX2_dropOld_29 : decode cX2_dropOld 29 = .ok (.if_icmp .lt 8, 3) := by decide +kernel
theorem dX2_dropOld_32 : decode cX2_dropOld 32 = .ok (.aload_n 0, 1) := by decide +kernel
theorem dX2_dropOld_33 : decode cX2_dropOld 33 = .ok (.iload_n 2, 1) := by decide +kernel
theorem dX2_dropOld_34 : decode cX2_dropOld 34 = .ok (.invokevirtual 25, 3) := by decide +kernel
theorem dX2_dropOld_37 : decode cX2_dropOld 37 = .ok (.iinc 2 1, 3) := by decide +kernel
theorem dX2_dropOld_40 : decode cX2_dropOld 40 = .ok (.goto (-38), 3) := by decide +kernel
theorem dX2_dropOld_43 : decode cX2_dropOld 43 = .ok (.return_, 1) := by decide +kernel
theorem dX2_drop_0 : decode cX2_drop 0 = .ok (.aload_n 0, 1) := by decide +kernel
theorem dX2_drop_1 : decode cX2_drop 1 = .ok (.getfield 11, 3) := by decide +kernel
theorem dX2_drop_4 : decode cX2_drop 4 = .ok (.iload_n 1, 1) := by decide +kernel
theorem dX2_drop_5 : decode cX2_drop 5 = .ok (.iconst (-1), 1) := by decide +kernel
theorem dX2_drop_6 : decode cX2_drop 6 = .ok (.iastore, 1) := by decide +kernel
theorem dX2_drop_7 : decode cX2_drop 7 = .ok (.aload_n 0, 1) := by decide +kernel
theorem dX2_drop_8 : decode cX2_drop 8 = .ok (.getfield 18, 3) := by decide +kernel
theorem dX2_drop_11 : decode cX2_drop 11 = .ok (.iload_n 1, 1) := by decide +kernel
theorem dX2_drop_12 : decode cX2_drop 12 = .ok (.bipush 30, 2) := by decide +kernel
theorem dX2_drop_14 : decode cX2_drop 14 = .ok (.idiv, 1) := by decide +kernel
theorem dX2_drop_15 : decode cX2_drop 15 = .ok (.dup2, 1) := by decide +kernel
theorem dX2_drop_16 : decode cX2_drop 16 = .ok (.iaload, 1) := by decide +kernel
theorem dX2_drop_17 : decode cX2_drop 17 = .ok (.iconst 1, 1) := by decide +kernel
theorem dX2_drop_18 : decode cX2_drop 18 = .ok (.isub, 1) := by decide +kernel
theorem dX2_drop_19 : decode cX2_drop 19 = .ok (.iastore, 1) := by decide +kernel
theorem dX2_drop_20 : decode cX2_drop 20 = .ok (.return_, 1) := by decide +kernel
theorem dX3_init_0 : decode cX3_init 0 = .ok (.aload_n 0, 1) := by decide +kernel
theorem dX3_init_1 : decode cX3_init 1 = .ok (.invokespecial 3, 3) := by decide +kernel
theorem dX3_init_4 : decode cX3_init 4 = .ok (.aload_n 0, 1) := by decide +kernel
theorem dX3_init_5 : decode cX3_init 5 = .ok (.bipush 6, 2) := by decide +kernel
theorem dX3_init_7 : decode cX3_init 7 = .ok (.newarray .int, 2) := by decide +kernel
theorem dX3_init_9 : decode cX3_init 9 = .ok (.putfield 9, 3) := by decide +kernel
theorem dX3_init_12 : decode cX3_init 12 = .ok (.aload_n 0, 1) := by decide +kernel
theorem dX3_init_13 : decode cX3_init 13 = .ok (.bipush 6, 2) := by decide +kernel
theorem dX3_init_15 : decode cX3_init 15 = .ok (.newarray .int, 2) := by decide +kernel
theorem dX3_init_17 : decode cX3_init 17 = .ok (.putfield 15, 3) := by decide +kernel
theorem dX3_init_20 : decode cX3_init 20 = .ok (.aload_n 0, 1) := by decide +kernel
theorem dX3_init_21 : decode cX3_init 21 = .ok (.bipush 6, 2) := by decide +kernel
theorem dX3_init_23 : decode cX3_init 23 = .ok (.newarray .int, 2) := by decide +kernel
theorem dX3_init_25 : decode cX3_init 25 = .ok (.putfield 18, 3) := by decide +kernel
theorem dX3_init_28 : decode cX3_init 28 = .ok (.aload_n 0, 1) := by decide +kernel
theorem dX3_init_29 : decode cX3_init 29 = .ok (.bipush 6, 2) := by decide +kernel
theorem dX3_init_31 : decode cX3_init 31 = .ok (.newarray .int, 2) := by decide +kernel
theorem dX3_init_33 : decode cX3_init 33 = .ok (.putfield 21, 3) := by decide +kernel
theorem dX3_init_36 : decode cX3_init 36 = .ok (.aload_n 0, 1) := by decide +kernel
theorem dX3_init_37 : decode cX3_init 37 = .ok (.bipush 30, 2) := by decide +kernel
theorem dX3_init_39 : decode cX3_init 39 = .ok (.newarray .int, 2) := by decide +kernel
theorem dX3_init_41 : decode cX3_init 41 = .ok (.putfield 24, 3) := by decide +kernel
theorem dX3_init_44 : decode cX3_init 44 = .ok (.aload_n 0, 1) := by decide +kernel
theorem dX3_init_45 : decode cX3_init 45 = .ok (.bipush 30, 2) := by decide +kernel
theorem dX3_init_47 : decode cX3_init 47 = .ok (.newarray .boolean, 2) := by decide +kernel
theorem dX3_init_49 : decode cX3_init 49 = .ok (.putfield 27, 3) := by decide +kernel
theorem dX3_init_52 : decode cX3_init 52 = .ok (.aload_n 0, 1) := by decide +kernel
theorem dX3_init_53 : decode cX3_init 53 = .ok (.bipush 30, 2) := by decide +kernel
theorem dX3_init_55 : decode cX3_init 55 = .ok (.newarray .int, 2) := by decide +kernel
theorem dX3_init_57 : decode cX3_init 57 = .ok (.putfield 31, 3) := by decide +kernel
theorem dX3_init_60 : decode cX3_init 60 = .ok (.aload_n 0, 1) := by decide +kernel
theorem dX3_init_61 : decode cX3_init 61 = .ok (.bipush 30, 2) := by decide +kernel
theorem dX3_init_63 : decode cX3_init 63 = .ok (.newarray .int, 2) := by decide +kernel
theorem dX3_init_65 : decode cX3_init 65 = .ok (.putfield 34, 3) := by decide +kernel
theorem dX3_init_68 : decode cX3_init 68 = .ok (.aload_n 0, 1) := by decide +kernel
theorem dX3_init_69 : decode cX3_init 69 = .ok (.bipush 30, 2) := by decide +kernel
theorem dX3_init_71 : decode cX3_init 71 = .ok (.newarray .int, 2) := by decide +kernel
theorem dX3_init_73 : decode cX3_init 73 = .ok (.putfield 37, 3) := by decide +kernel
theorem dX3_init_76 : decode cX3_init 76 = .ok (.aload_n 0, 1) := by decide +kernel
theorem dX3_init_77 : decode cX3_init 77 = .ok (.bipush 30, 2) := by decide +kernel
theorem dX3_init_79 : decode cX3_init 79 = .ok (.newarray .int, 2) := by decide +kernel
theorem dX3_init_81 : decode cX3_init 81 = .ok (.putfield 40, 3) := by decide +kernel
theorem dX3_init_84 : decode cX3_init 84 = .ok (.aload_n 0, 1) := by decide +kernel
theorem dX3_init_85 : decode cX3_init 85 = .ok (.bipush 30, 2) := by decide +kernel
theorem dX3_init_87 : decode cX3_init 87 = .ok (.newarray .int, 2) := by decide +kernel
theorem dX3_init_89 : decode cX3_init 89 = .ok (.putfield 43, 3) := by decide +kernel
theorem dX3_init_92 : decode cX3_init 92 = .ok (.aload_n 0, 1) := by decide +kernel
theorem dX3_init_93 : decode cX3_init 93 = .ok (.bipush 30, 2) := by decide +kernel
theorem dX3_init_95 : decode cX3_init 95 = .ok (.newarray .boolean, 2) := by decide +kernel
theorem dX3_init_97 : decode cX3_init 97 = .ok (.putfield 46, 3) := by decide +kernel
theorem dX3_init_100 : decode cX3_init 100 = .ok (.aload_n 0, 1) := by decide +kernel
theorem dX3_init_101 : decode cX3_init 101 = .ok (.bipush 6, 2) := by decide +kernel
theorem dX3_init_103 : decode cX3_init 103 = .ok (.newarray .boolean, 2) := by decide +kernel
theorem dX3_init_105 : decode cX3_init 105 = .ok (.putfield 49, 3) := by decide +kernel
theorem dX3_init_108 : decode cX3_init 108 = .ok (.aload_n 0, 1) := by decide +kernel
theorem dX3_init_109 : decode cX3_init 109 = .ok (.bipush 6, 2) := by decide +kernel
theorem dX3_init_111 : decode cX3_init 111 = .ok (.newarray .int, 2) := by decide +kernel
theorem dX3_init_113 : decode cX3_init 113 = .ok (.putfield 52, 3) := by decide +kernel
theorem dX3_init_116 : decode cX3_init 116 = .ok (.aload_n 0, 1) := by decide +kernel
theorem dX3_init_117 : decode cX3_init 117 = .ok (.aload_n 1, 1) := by decide +kernel
theorem dX3_init_118 : decode cX3_init 118 = .ok (.putfield 55, 3) := by decide +kernel
theorem dX3_init_121 : decode cX3_init 121 = .ok (.iconst 0, 1) := by decide +kernel
theorem dX3_init_122 : decode cX3_init 122 = .ok (.istore_n 2, 1) := by decide +kernel
theorem dX3_init_123 : decode cX3_init 123 = .ok (.iload_n 2, 1) := by decide +kernel
theorem dX3_init_124 : decode cX3_init 124 = .ok (.bipush 6, 2) := by decide +kernel
theorem dX3_init_126 : decode cX3_init 126 = .ok (.if_icmp .ge 23, 3) := by decide +kernel
theorem dX3_init_129 : decode cX3_init 129 = .ok (.aload_n 0, 1) := by decide +kernel
theorem dX3_init_130 : decode cX3_init 130 = .ok (.getfield 9, 3) := by decide +kernel
theorem dX3_init_133 : decode cX3_init 133 = .ok (.iload_n 2, 1) := by decide +kernel
theorem dX3_init_134 : decode cX3_init 134 = .ok (.iload_n 2, 1) := by decide +kernel
theorem dX3_init_135 : decode cX3_init 135 = .ok (.iastore, 1) := by decide +kernel
theorem dX3_init_136 : decode cX3_init 136 = .ok (.aload_n 0, 1) := by decide +kernel
theorem dX3_init_137 : decode cX3_init 137 = .ok (.getfield 21, 3) := by decide +kernel
theorem dX3_init_140 : decode cX3_init 140 = .ok (.iload_n 2, 1) := by decide +kernel
theorem dX3_init_141 : decode cX3_init 141 = .ok (.iconst (-1), 1) := by decide +kernel
theorem dX3_init_142 : decode cX3_init 142 = .ok (.iastore, 1) := by decide +kernel
theorem dX3_init_143 : decode cX3_init 143 = .ok (.iinc 2 1, 3) := by decide +kernel
theorem dX3_init_146 : decode cX3_init 146 = .ok (.goto (-23), 3) := by decide +kernel
theorem dX3_init_149 : decode cX3_init 149 = .ok (.return_, 1) := by decide +kernel
theorem dX3_copyFrom_0 : decode cX3_copyFrom 0 = .ok (.iconst 0, 1) := by decide +kernel
theorem dX3_copyFrom_1 : decode cX3_copyFrom 1 = .ok (.istore_n 2, 1) := by decide +kernel
theorem dX3_copyFrom_2 : decode cX3_copyFrom 2 = .ok (.iload_n 2, 1) := by decide +kernel
theorem dX3_copyFrom_3 : decode cX3_copyFrom 3 = .ok (.bipush 6, 2) := by decide +kernel
theorem dX3_copyFrom_5 : decode cX3_copyFrom 5 = .ok (.if_icmp .ge 57, 3) := by decide +kernel
theorem dX3_copyFrom_8 : decode cX3_copyFrom 8 = .ok (.aload_n 0, 1) := by decide +kernel
theorem dX3_copyFrom_9 : decode cX3_copyFrom 9 = .ok (.getfield 9, 3) := by decide +kernel
theorem dX3_copyFrom_12 : decode cX3_copyFrom 12 = .ok (.iload_n 2, 1) := by decide +kernel
theorem dX3_copyFrom_13 : decode cX3_copyFrom 13 = .ok (.aload_n 1, 1) := by decide +kernel
theorem dX3_copyFrom_14 : decode cX3_copyFrom 14 = .ok (.getfield 9, 3) := by decide +kernel
theorem dX3_copyFrom_17 : decode cX3_copyFrom 17 = .ok (.iload_n 2, 1) := by decide +kernel
theorem dX3_copyFrom_18 : decode cX3_copyFrom 18 = .ok (.iaload, 1) := by decide +kernel
theorem dX3_copyFrom_19 : decode cX3_copyFrom 19 = .ok (.iastore, 1) := by decide +kernel
theorem dX3_copyFrom_20 : decode cX3_copyFrom 20 = .ok (.aload_n 0, 1) := by decide +kernel
theorem dX3_copyFrom_21 : decode cX3_copyFrom 21 = .ok (.getfield 15, 3) := by decide +kernel
theorem dX3_copyFrom_24 : decode cX3_copyFrom 24 = .ok (.iload_n 2, 1) := by decide +kernel
theorem dX3_copyFrom_25 : decode cX3_copyFrom 25 = .ok (.aload_n 1, 1) := by decide +kernel
theorem dX3_copyFrom_26 : decode cX3_copyFrom 26 = .ok (.getfield 15, 3) := by decide +kernel
theorem dX3_copyFrom_29 : decode cX3_copyFrom 29 = .ok (.iload_n 2, 1) := by decide +kernel
theorem dX3_copyFrom_30 : decode cX3_copyFrom 30 = .ok (.iaload, 1) := by decide +kernel
theorem dX3_copyFrom_31 : decode cX3_copyFrom 31 = .ok (.iastore, 1) := by decide +kernel
theorem dX3_copyFrom_32 : decode cX3_copyFrom 32 = .ok (.aload_n 0, 1) := by decide +kernel
theorem dX3_copyFrom_33 : decode cX3_copyFrom 33 = .ok (.getfield 18, 3) := by decide +kernel
theorem dX3_copyFrom_36 : decode cX3_copyFrom 36 = .ok (.iload_n 2, 1) := by decide +kernel
theorem dX3_copyFrom_37 : decode cX3_copyFrom 37 = .ok (.aload_n 1, 1) := by decide +kernel
theorem dX3_copyFrom_38 : decode cX3_copyFrom 38 = .ok (.getfield 18, 3) := by decide +kernel
theorem dX3_copyFrom_41 : decode cX3_copyFrom 41 = .ok (.iload_n 2, 1) := by decide +kernel
theorem dX3_copyFrom_42 : decode cX3_copyFrom 42 = .ok (.iaload, 1) := by decide +kernel
theorem dX3_copyFrom_43 : decode cX3_copyFrom 43 = .ok (.iastore, 1) := by decide +kernel
theorem dX3_copyFrom_44 : decode cX3_copyFrom 44 = .ok (.aload_n 0, 1) := by decide +kernel
theorem dX3_copyFrom_45 : decode cX3_copyFrom 45 = .ok (.getfield 21, 3) := by decide +kernel
theorem dX3_copyFrom_48 : decode cX3_copyFrom 48 = .ok (.iload_n 2, 1) := by decide +kernel
theorem dX3_copyFrom_49 : decode cX3_copyFrom 49 = .ok (.aload_n 1, 1) := by decide +kernel
theorem dX3_copyFrom_50 : decode cX3_copyFrom 50 = .ok (.getfield 21, 3) := by decide +kernel
theorem dX3_copyFrom_53 : decode cX3_copyFrom 53 = .ok (.iload_n 2, 1) := by decide +kernel
theorem dX3_copyFrom_54 : decode cX3_copyFrom 54 = .ok (.iaload, 1) := by decide +kernel
theorem dX3_copyFrom_55 : decode cX3_copyFrom 55 = .ok (.iastore, 1) := by decide +kernel
theorem dX3_copyFrom_56 : decode cX3_copyFrom 56 = .ok (.iinc 2 1, 3) := by decide +kernel
theorem dX3_copyFrom_59 : decode cX3_copyFrom 59 = .ok (.goto (-57), 3) := by decide +kernel
theorem dX3_copyFrom_62 : decode cX3_copyFrom 62 = .ok (.iconst 0, 1) := by decide +kernel
theorem dX3_copyFrom_63 : decode cX3_copyFrom 63 = .ok (.istore_n 2, 1) := by decide +kernel
theorem dX3_copyFrom_64 : decode cX3_copyFrom 64 = .ok (.iload_n 2, 1) := by decide +kernel
theorem dX3_copyFrom_65 : decode cX3_copyFrom 65 = .ok (.bipush 30, 2) := by decide +kernel
theorem dX3_copyFrom_67 : decode cX3_copyFrom 67 = .ok (.if_icmp .ge 57, 3) := by decide +kernel
theorem dX3_copyFrom_70 : decode cX3_copyFrom 70 = .ok (.aload_n 0, 1) := by decide +kernel
theorem dX3_copyFrom_71 : decode cX3_copyFrom 71 = .ok (.getfield 24, 3) := by decide +kernel
theorem dX3_copyFrom_74 : decode cX3_copyFrom 74 = .ok (.iload_n 2, 1) := by decide +kernel
theorem dX3_copyFrom_75 : decode cX3_copyFrom 75 = .ok (.aload_n 1, 1) := by decide +kernel
theorem dX3_copyFrom_76 : decode cX3_copyFrom 76 = .ok (.getfield 24, 3) := by decide +kernel
theorem dX3_copyFrom_79 : decode cX3_copyFrom 79 = .ok (.iload_n 2, 1) := by decide +kernel
theorem dX3_copyFrom_80 : decode cX3_copyFrom 80 = .ok (.iaload, 1) := by decide +kernel
theorem dX3_copyFrom_81 : decode cX3_copyFrom 81 = .ok (.iastore, 1) := by decide +kernel
theorem dX3_copyFrom_82 : decode cX3_copyFrom 82 = .ok (.aload_n 0, 1) := by decide +kernel
theorem dX3_copyFrom_83 : decode cX3_copyFrom 83 = .ok (.getfield 27, 3) := by decide +kernel
theorem dX3_copyFrom_86 : decode cX3_copyFrom 86 = .ok (.iload_n 2, 1) := by decide +kernel
theorem dX3_copyFrom_87 : decode cX3_copyFrom 87 = .ok (.aload_n 1, 1) := by decide +kernel
theorem dX3_copyFrom_88 : decode cX3_copyFrom 88 = .ok (.getfield 27, 3) := by decide +kernel
theorem dX3_copyFrom_91 : decode cX3_copyFrom 91 = .ok (.iload_n 2, 1) := by decide +kernel
theorem dX3_copyFrom_92 : decode cX3_copyFrom 92 = .ok (.baload, 1) := by decide +kernel
theorem dX3_copyFrom_93 : decode cX3_copyFrom 93 = .ok (.bastore, 1) := by decide +kernel
theorem dX3_copyFrom_94 : decode cX3_copyFrom 94 = .ok (.aload_n 0, 1) := by decide +kernel
theorem dX3_copyFrom_95 : decode cX3_copyFrom 95 = .ok (.getfield 31, 3) := by decide +kernel
theorem dX3_copyFrom_98 : decode cX3_copyFrom 98 = .ok (.iload_n 2, 1) := by decide +kernel
theorem dX3_copyFrom_99 : decode cX3_copyFrom 99 = .ok (.aload_n 1, 1) := by decide +kernel
theorem dX3_copyFrom_100 : decode cX3_copyFrom 100 = .ok (.getfield 31, 3) := by decide +kernel
theorem dX3_copyFrom_103 : decode cX3_copyFrom 103 = .ok (.iload_n 2, 1) := by decide +kernel
theorem dX3_copyFrom_104 : decode cX3_copyFrom 104 = .ok (.iaload, 1) := by decide +kernel
theorem dX3_copyFrom_105 : decode cX3_copyFrom 105 = .ok (.iastore, 1) := by decide +kernel
theorem dX3_copyFrom_106 : decode cX3_copyFrom 106 = .ok (.aload_n 0, 1) := by decide +kernel
theorem dX3_copyFrom_107 : decode cX3_copyFrom 107 = .ok (.getfield 34, 3) := by decide +kernel
theorem dX3_copyFrom_110 : decode cX3_copyFrom 110 = .ok (.iload_n 2, 1) := by decide +kernel
theorem dX3_copyFrom_111 : decode cX3_copyFrom 111 = .ok (.aload_n 1, 1) := by decide +kernel
theorem dX3_copyFrom_112 : decode cX3_copyFrom 112 = .ok (.getfield 34, 3) := by decide +kernel
theorem dX3_copyFrom_115 : decode cX3_copyFrom 115 = .ok (.iload_n 2, 1) := by decide +kernel
theorem dX3_copyFrom_116 : decode cX3_copyFrom 116 = .ok (.iaload, 1) := by decide +kernel
theorem dX3_copyFrom_117 : decode cX3_copyFrom 117 = .ok (.iastore, 1) := by decide +kernel
theorem dX3_copyFrom_118 : decode cX3_copyFrom 118 = .ok (.iinc 2 1, 3) := by decide +kernel
theorem dX3_copyFrom_121 : decode cX3_copyFrom 121 = .ok (.goto (-57), 3) := by decide +kernel
theorem dX3_copyFrom_124 : decode cX3_copyFrom 124 = .ok (.aload_n 0, 1) := by decide +kernel
theorem dX3_copyFrom_125 : decode cX3_copyFrom 125 = .ok (.aload_n 1, 1) := by decide +kernel
theorem dX3_copyFrom_126 : decode cX3_copyFrom 126 = .ok (.getfield 59, 3) := by decide +kernel
theorem dX3_copyFrom_129 : decode cX3_copyFrom 129 = .ok (.putfield 59, 3) := by decide +kernel
theorem dX3_copyFrom_132 : decode cX3_copyFrom 132 = .ok (.return_, 1) := by decide +kernel
theorem dX3_looksLike_0 : decode cX3_looksLike 0 = .ok (.iconst 0, 1) := by decide +kernel
theorem dX3_looksLike_1 : decode cX3_looksLike 1 = .ok (.istore_n 2, 1) := by decide +kernel
theorem dX3_looksLike_2 : decode cX3_looksLike 2 = .ok (.iload_n 2, 1) := by decide +kernel
theorem dX3_looksLike_3 : decode cX3_looksLike 3 = .ok (.bipush 6, 2) := by decide +kernel
theorem dX3_looksLike_5 : decode cX3_looksLike 5 = .ok (.if_icmp .ge 56, 3) := by decide +kernel
theorem dX3_looksLike_8 : decode cX3_looksLike 8 = .ok (.aload_n 0, 1) := by decide +kernel
theorem dX3_looksLike_9 : decode cX3_looksLike 9 = .ok (.getfield 9, 3) := by decide +kernel
theorem dX3_looksLike_12 : decode cX3_looksLike 12 = .ok (.iload_n 2, 1) := by decide +kernel
theorem dX3_looksLike_13 : decode cX3_looksLike 13 = .ok (.iaload, 1) := by decide +kernel
theorem dX3_looksLike_14 : decode cX3_looksLike 14 = .ok (.aload_n 1, 1) := by decide +kernel
theorem dX3_looksLike_15 : decode cX3_looksLike 15 = .ok (.getfield 9, 3) := by decide +kernel
theorem dX3_looksLike_18 : decode cX3_looksLike 18 = .ok (.iload_n 2, 1) := by decide +kernel
theorem dX3_looksLike_19 : decode cX3_looksLike 19 = .ok (.iaload, 1) := by decide +kernel
theorem dX3_looksLike_20 : decode cX3_looksLike 20 = .ok (.if_icmp .ne 33, 3) := by decide +kernel
theorem dX3_looksLike_23 : decode cX3_looksLike 23 = .ok (.aload_n 0, 1) := by decide +kernel
theorem dX3_looksLike_24 : decode cX3_looksLike 24 = .ok (.getfield 15, 3) := by decide +kernel
theorem dX3_looksLike_27 : decode cX3_looksLike 27 = .ok (.iload_n 2, 1) := by decide +kernel
theorem dX3_looksLike_28 : decode cX3_looksLike 28 = .ok (.iaload, 1) := by decide +kernel
theorem dX3_looksLike_29 : decode cX3_looksLike 29 = .ok (.aload_n 1, 1) := by decide +kernel
theorem dX3_looksLike_30 : decode cX3_looksLike 30 = .ok (.getfield 15, 3) := by decide +kernel
theorem dX3_looksLike_33 : decode cX3_looksLike 33 = .ok (.iload_n 2, 1) := by decide +kernel
theorem dX3_looksLike_34 : decode cX3_looksLike 34 = .ok (.iaload, 1) := by decide +kernel
theorem dX3_looksLike_35 : decode cX3_looksLike 35 = .ok (.if_icmp .ne 18, 3) := by decide +kernel
theorem dX3_looksLike_38 : decode cX3_looksLike 38 = .ok (.aload_n 0, 1) := by decide +kernel
theorem dX3_looksLike_39 : decode cX3_looksLike 39 = .ok (.getfield 18, 3) := by decide +kernel
theorem dX3_looksLike_42 : decode cX3_looksLike 42 = .ok (.iload_n 2, 1) := by decide +kernel
theorem dX3_looksLike_43 : decode cX3_looksLike 43 = .ok (.iaload, 1) := by decide +kernel
theorem dX3_looksLike_44 : decode cX3_looksLike 44 = .ok (.aload_n 1, 1) := by decide +kernel
theorem dX3_looksLike_45 : decode cX3_looksLike 45 = .ok (.getfield 18, 3) := by decide +kernel
theorem dX3_looksLike_48 : decode cX3_looksLike 48 = .ok (.iload_n 2, 1) := by decide +kernel
theorem dX3_looksLike_49 : decode cX3_looksLike 49 = .ok (.iaload, 1) := by decide +kernel
theorem dX3_looksLike_50 : decode cX3_looksLike 50 = .ok (.if_icmp .eq 5, 3) := by decide +kernel
theorem dX3_looksLike_53 : decode cX3_looksLike 53 = .ok (.iconst 0, 1) := by decide +kernel
theorem dX3_looksLike_54 : decode cX3_looksLike 54 = .ok (.ireturn, 1) := by decide +kernel
theorem dX3_looksLike_55 : decode cX3_looksLike 55 = .ok (.iinc 2 1, 3) := by decide +kernel
theorem dX3_looksLike_58 : decode cX3_looksLike 58 = .ok (.goto (-56), 3) := by decide +kernel
theorem dX3_looksLike_61 : decode cX3_looksLike 61 = .ok (.iconst 0, 1) := by decide +kernel
theorem dX3_looksLike_62 : decode cX3_looksLike 62 = .ok (.istore_n 2, 1) := by decide +kernel
theorem dX3_looksLike_63 : decode cX3_looksLike 63 = .ok (.iload_n 2, 1) := by decide +kernel
theorem dX3_looksLike_64 : decode cX3_looksLike 64 = .ok (.bipush 30, 2) := by decide +kernel
theorem dX3_looksLike_66 : decode cX3_looksLike 66 = .ok (.if_icmp .ge 41, 3) := by decide +kernel
theorem dX3_looksLike_69 : decode cX3_looksLike 69 = .ok (.aload_n 0, 1) := by decide +kernel
theorem dX3_looksLike_70 : decode cX3_looksLike 70 = .ok (.getfield 27, 3) := by decide +kernel
theorem dX3_looksLike_73 : decode cX3_looksLike 73 = .ok (.iload_n 2, 1) := by decide +kernel
theorem dX3_looksLike_74 : decode cX3_looksLike 74 = .ok (.baload, 1) := by decide +kernel
theorem dX3_looksLike_75 : decode cX3_looksLike 75 = .ok (.aload_n 1, 1) := by decide +kernel
theorem dX3_looksLike_76 : decode cX3_looksLike 76 = .ok (.getfield 27, 3) := by decide +kernel
theorem dX3_looksLike_79 : decode cX3_looksLike 79 = .ok (.iload_n 2, 1) := by decide +kernel
theorem dX3_looksLike_80 : decode cX3_looksLike 80 = .ok (.baload, 1) := by decide +kernel
theorem dX3_looksLike_81 : decode cX3_looksLike 81 = .ok (.if_icmp .ne 18, 3) := by decide +kernel
theorem dX3_looksLike_84 : decode cX3_looksLike 84 = .ok (.aload_n 0, 1) := by decide +kernel
theorem dX3_looksLike_85 : decode cX3_looksLike 85 = .ok (.getfield 31, 3) := by decide +kernel
theorem dX3_looksLike_88 : decode cX3_looksLike 88 = .ok (.iload_n 2, 1) := by decide +kernel
theorem dX3_looksLike_89 : decode cX3_looksLike 89 = .ok (.iaload, 1) := by decide +kernel
theorem dX3_looksLike_90 : decode cX3_looksLike 90 = .ok (.aload_n 1, 1) := by decide +kernel
theorem dX3_looksLike_91 : decode cX3_looksLike 91 = .ok (.getfield 31, 3) := by decide +kernel
theorem dX3_looksLike_94 : decode cX3_looksLike 94 = .ok (.iload_n 2, 1) := by decide +kernel
theorem dX3_looksLike_95 : decode cX3_looksLike 95 = .ok (.iaload, 1) := by decide +kernel
theorem dX3_looksLike_96 : decode cX3_looksLike 96 = .ok (.if_icmp .eq 5, 3) := by decide +kernel
theorem dX3_looksLike_99 : decode cX3_looksLike 99 = .ok (.iconst 0, 1) := by decide +kernel
theorem dX3_looksLike_100 : decode cX3_looksLike 100 = .ok (.ireturn, 1) := by decide +kernel
theorem dX3_looksLike_101 : decode cX3_looksLike 101 = .ok (.iinc 2 1, 3) := by decide +kernel
theorem dX3_looksLike_104 : decode cX3_looksLike 104 = .ok (.goto (-41), 3) := by decide +kernel
theorem dX3_looksLike_107 : decode cX3_looksLike 107 = .ok (.iconst 1, 1) := by decide +kernel
theorem dX3_looksLike_108 : decode cX3_looksLike 108 = .ok (.ireturn, 1) := by decide +kernel
theorem dX3_hasWaitingPort_0 : decode cX3_hasWaitingPort 0 = .ok (.iconst 0, 1) := by decide +kernel
theorem dX3_hasWaitingPort_1 : decode cX3_hasWaitingPort 1 = .ok (.istore_n 1, 1) := by decide +kernel
theorem dX3_hasWaitingPort_2 : decode cX3_hasWaitingPort 2 = .ok (.iload_n 1, 1) := by decide +kernel
theorem dX3_hasWaitingPort_3 : decode cX3_hasWaitingPort 3 = .ok (.bipush 30, 2) := by decide +kernel
theorem dX3_hasWaitingPort_5 : decode cX3_hasWaitingPort 5 = .ok (.if_icmp .ge 20, 3) := by decide +kernel
theorem dX3_hasWaitingPort_8 : decode cX3_hasWaitingPort 8 = .ok (.aload_n 0, 1) := by decide +kernel
theorem dX3_hasWaitingPort_9 : decode cX3_hasWaitingPort 9 = .ok (.getfield 34, 3) := by decide +kernel
theorem dX3_hasWaitingPort_12 : decode cX3_hasWaitingPort 12 = .ok (.iload_n 1, 1) := by decide +kernel
theorem dX3_hasWaitingPort_13 : decode cX3_hasWaitingPort 13 = .ok (.iaload, 1) := by decide +kernel
theorem dX3_hasWaitingPort_14 : decode cX3_hasWaitingPort 14 = .ok (.ifCond .le 5, 3) := by decide +kernel
theorem dX3_hasWaitingPort_17 : decode cX3_hasWaitingPort 17 = .ok (.iconst 1, 1) := by decide +kernel
theorem dX3_hasWaitingPort_18 : decode cX3_hasWaitingPort 18 = .ok (.ireturn, 1) := by decide +kernel
theorem dX3_hasWaitingPort_19 : decode cX3_hasWaitingPort 19 = .ok (.iinc 1 1, 3) := by decide +kernel
theorem dX3_hasWaitingPort_22 : decode cX3_hasWaitingPort 22 = .ok (.goto (-20), 3) := by decide +kernel
theorem dX3_hasWaitingPort_25 : decode cX3_hasWaitingPort 25 = .ok (.iconst 0, 1) := by decide +kernel
theorem dX3_hasWaitingPort_26 : decode cX3_hasWaitingPort 26 = .ok (.ireturn, 1) := by decide +kernel
theorem dX3_isShut_0 : decode cX3_isShut 0 = .ok (.aload_n 0, 1) := by decide +kernel
theorem dX3_isShut_1 : decode cX3_isShut 1 = .ok (.getfield 24, 3) := by decide +kernel
theorem dX3_isShut_4 : decode cX3_isShut 4 = .ok (.iload_n 1, 1) := by decide +kernel
theorem dX3_isShut_5 : decode cX3_isShut 5 = .ok (.iaload, 1) := by decide +kernel
theorem dX3_isShut_6 : decode cX3_isShut 6 = .ok (.ifCond .eq 7, 3) := by decide +kernel
theorem dX3_isShut_9 : decode cX3_isShut 9 = .ok (.iconst 1, 1) := by decide +kernel
theorem dX3_isShut_10 : decode cX3_isShut 10 = .ok (.goto 4, 3) := by decide +kernel
theorem dX3_isShut_13 : decode cX3_isShut 13 = .ok (.iconst 0, 1) := by decide +kernel
theorem dX3_isShut_14 : decode cX3_isShut 14 = .ok (.ireturn, 1) := by decide +kernel
set_option maxRecDepth 20000 in
theorem ggX3_isJoined_X3_isShut : GoodIn wsX3_isJoined wsX3_isShut := goodIn_r _ [7, 8, 9, 10, 11, 12, 13, 14, 15, 16, 17, 18, 19, 20, 21, 22, 23, 24] (by decide +kernel) (by decide +kernel)
set_option maxRecDepth 20000 in
theorem gX3_isJoined_X3_isShut : GoodIn wsX3_isJoined (wsV RX3 68 RX3 yX3_isShut wsX3_isShut) := goodIn_app (goodIn_of _ (by decide +kernel)) ggX3_isJoined_X3_isShut
theorem dX3_isJoined_0 : decode cX3_isJoined 0 = .ok (.aload_n 0, 1) := by decide +kernel
theorem dX3_isJoined_1 : decode cX3_isJoined 1 = .ok (.getfield 55, 3) := by decide +kernel
theorem dX3_isJoined_4 : decode cX3_isJoined 4 = .ok (.getfield 63, 3) := by decide +kernel
theorem dX3_isJoined_7 : decode cX3_isJoined 7 = .ok (.iload_n 1, 1) := by decide +kernel
theorem dX3_isJoined_8 : decode cX3_isJoined 8 = .ok (.iaload, 1) := by decide +kernel
theorem dX3_isJoined_9 : decode cX3_isJoined 9 = .ok (.istore_n 2, 1) := by decide +kernel
theorem dX3_isJoined_10 : decode cX3_isJoined 10 = .ok (.iload_n 2, 1) := by decide +kernel
theorem dX3_isJoined_11 : decode cX3_isJoined 11 = .ok (.iconst (-1), 1) := by decide +kernel
theorem dX3_isJoined_12 : decode cX3_isJoined 12 = .ok (.if_icmp .eq 23, 3) := by decide +kernel
theorem dX3_isJoined_15 : decode cX3_isJoined 15 = .ok (.aload_n 0, 1) := by decide +kernel
theorem dX3_isJoined_16 : decode cX3_isJoined 16 = .ok (.iload_n 1, 1) := by decide +kernel
theorem dX3_isJoined_17 : decode cX3_isJoined 17 = .ok (.invokevirtual 68, 3) := by decide +kernel
theorem dX3_isJoined_20 : decode cX3_isJoined 20 = .ok (.ifCond .ne 15, 3) := by decide +kernel
theorem dX3_isJoined_23 : decode cX3_isJoined 23 = .ok (.aload_n 0, 1) := by decide +kernel
theorem dX3_isJoined_24 : decode cX3_isJoined 24 = .ok (.iload_n 2, 1) := by decide +kernel
theorem dX3_isJoined_25 : decode cX3_isJoined 25 = .ok (.invokevirtual 68, 3) := by decide +kernel
theorem dX3_isJoined_28 : decode cX3_isJoined 28 = .ok (.ifCond .ne 7, 3) := by decide +kernel
theorem dX3_isJoined_31 : decode cX3_isJoined 31 = .ok (.iconst 1, 1) := by decide +kernel
theorem dX3_isJoined_32 : decode cX3_isJoined 32 = .ok (.goto 4, 3) := by decide +kernel
theorem dX3_isJoined_35 : decode cX3_isJoined 35 = .ok (.iconst 0, 1) := by decide +kernel
theorem dX3_isJoined_36 : decode cX3_isJoined 36 = .ok (.ireturn, 1) := by decide +kernel
theorem dX3_close_0 : decode cX3_close 0 = .ok (.aload_n 0, 1) := by decide +kernel
theorem dX3_close_1 : decode cX3_close 1 = .ok (.getfield 27, 3) := by decide +kernel
theorem dX3_close_4 : decode cX3_close 4 = .ok (.iload_n 1, 1) := by decide +kernel
theorem dX3_close_5 : decode cX3_close 5 = .ok (.iconst 0, 1) := by decide +kernel
theorem dX3_close_6 : decode cX3_close 6 = .ok (.bastore, 1) := by decide +kernel
theorem dX3_close_7 : decode cX3_close 7 = .ok (.aload_n 0, 1) := by decide +kernel
theorem dX3_close_8 : decode cX3_close 8 = .ok (.getfield 31, 3) := by decide +kernel
theorem dX3_close_11 : decode cX3_close 11 = .ok (.iload_n 1, 1) := by decide +kernel
theorem dX3_close_12 : decode cX3_close 12 = .ok (.iconst 0, 1) := by decide +kernel
theorem dX3_close_13 : decode cX3_close 13 = .ok (.iastore, 1) := by decide +kernel
theorem dX3_close_14 : decode cX3_close 14 = .ok (.aload_n 0, 1) := by decide +kernel
theorem dX3_close_15 : decode cX3_close 15 = .ok (.getfield 34, 3) := by decide +kernel
theorem dX3_close_18 : decode cX3_close 18 = .ok (.iload_n 1, 1) := by decide +kernel
theorem dX3_close_19 : decode cX3_close 19 = .ok (.iconst 0, 1) := by decide +kernel
theorem dX3_close_20 : decode cX3_close 20 = .ok (.iastore, 1) := by decide +kernel
theorem dX3_close_21 : decode cX3_close 21 = .ok (.return_, 1) := by decide +kernel
set_option maxRecDepth 20000 in
theorem ggX3_openForHouse_X3_isShut : GoodIn wsX3_openForHouse wsX3_isShut := goodIn_r _ [8, 9, 10, 11, 12, 13, 14, 15, 16, 17, 18, 19, 20, 21, 22, 23, 24, 25] (by decide +kernel) (by decide +kernel)
set_option maxRecDepth 20000 in
theorem gX3_openForHouse_X3_isShut : GoodIn wsX3_openForHouse (wsV RX3 68 RX3 yX3_isShut wsX3_isShut) := goodIn_app (goodIn_of _ (by decide +kernel)) ggX3_openForHouse_X3_isShut
theorem dX3_openForHouse_0 : decode cX3_openForHouse 0 = .ok (.aload_n 0, 1) := by decide +kernel
theorem dX3_openForHouse_1 : decode cX3_openForHouse 1 = .ok (.getfield 27, 3) := by decide +kernel
theorem dX3_openForHouse_4 : decode cX3_openForHouse 4 = .ok (.iload_n 1, 1) := by decide +kernel
theorem dX3_openForHouse_5 : decode cX3_openForHouse 5 = .ok (.aload_n 0, 1) := by decide +kernel
theorem dX3_openForHouse_6 : decode cX3_openForHouse 6 = .ok (.iload_n 1, 1) := by decide +kernel
theorem dX3_openForHouse_7 : decode cX3_openForHouse 7 = .ok (.invokevirtual 68, 3) := by decide +kernel
theorem dX3_openForHouse_10 : decode cX3_openForHouse 10 = .ok (.ifCond .ne 20, 3) := by decide +kernel
theorem dX3_openForHouse_13 : decode cX3_openForHouse 13 = .ok (.aload_n 0, 1) := by decide +kernel
theorem dX3_openForHouse_14 : decode cX3_openForHouse 14 = .ok (.getfield 55, 3) := by decide +kernel
theorem dX3_openForHouse_17 : decode cX3_openForHouse 17 = .ok (.getfield 72, 3) := by decide +kernel
theorem dX3_openForHouse_20 : decode cX3_openForHouse 20 = .ok (.iload_n 1, 1) := by decide +kernel
theorem dX3_openForHouse_21 : decode cX3_openForHouse 21 = .ok (.iaload, 1) := by decide +kernel
theorem dX3_openForHouse_22 : decode cX3_openForHouse 22 = .ok (.iconst (-1), 1) := by decide +kernel
theorem dX3_openForHouse_23 : decode cX3_openForHouse 23 = .ok (.if_icmp .eq 7, 3) := by decide +kernel
theorem dX3_openForHouse_26 : decode cX3_openForHouse 26 = .ok (.iconst 1, 1) := by decide +kernel
theorem dX3_openForHouse_27 : decode cX3_openForHouse 27 = .ok (.goto 4, 3) := by decide +kernel
theorem dX3_openForHouse_30 : decode cX3_openForHouse 30 = .ok (.iconst 0, 1) := by decide +kernel
theorem dX3_openForHouse_31 : decode cX3_openForHouse 31 = .ok (.bastore, 1) := by decide +kernel
theorem dX3_openForHouse_32 : decode cX3_openForHouse 32 = .ok (.return_, 1) := by decide +kernel
set_option maxRecDepth 20000 in
theorem ggX3_beginShut_X3_close : GoodIn wsX3_beginShut wsX3_close := goodIn_r _ [6, 7, 8, 9, 10, 11, 12, 13, 14, 15, 16, 17, 18, 19, 20, 21, 22, 23, 24, 25] (by decide +kernel) (by decide +kernel)
set_option maxRecDepth 20000 in
theorem gX3_beginShut_X3_close : GoodIn wsX3_beginShut (wsV RX3 75 RX3 yX3_close wsX3_close) := goodIn_app (goodIn_of _ (by decide +kernel)) ggX3_beginShut_X3_close
theorem dX3_beginShut_0 : decode cX3_beginShut 0 = .ok (.aload_n 0, 1) := by decide +kernel
theorem dX3_beginShut_1 : decode cX3_beginShut 1 = .ok (.getfield 24, 3) := by decide +kernel
theorem dX3_beginShut_4 : decode cX3_beginShut 4 = .ok (.iload_n 1, 1) := by decide +kernel
theorem dX3_beginShut_5 : decode cX3_beginShut 5 = .ok (.iload_n 2, 1) := by decide +kernel
theorem dX3_beginShut_6 : decode cX3_beginShut 6 = .ok (.iastore, 1) := by decide +kernel
theorem dX3_beginShut_7 : decode cX3_beginShut 7 = .ok (.aload_n 0, 1) := by decide +kernel
theorem dX3_beginShut_8 : decode cX3_beginShut 8 = .ok (.iload_n 1, 1) := by decide +kernel
theorem dX3_beginShut_9 : decode cX3_beginShut 9 = .ok (.invokevirtual 75, 3) := by decide +kernel
theorem dX3_beginShut_12 : decode cX3_beginShut 12 = .ok (.return_, 1) := by decide +kernel
set_option maxRecDepth 20000 in
theorem ggX3_endShut_X3_openForHouse : GoodIn wsX3_endShut wsX3_openForHouse := goodIn_r _ [6, 7, 8, 9, 10, 11, 12, 5, 13, 1, 14, 15, 16, 17, 18, 19, 20, 21, 22, 23, 24, 25, 26, 27, 28, 29, 30, 31, 32, 33, 34, 35, 36, 37] (by decide +kernel) (by decide +kernel)
set_option maxRecDepth 20000 in
theorem gX3_endShut_X3_openForHouse : GoodIn wsX3_endShut (wsV RX3 79 RX3 yX3_openForHouse wsX3_openForHouse) := goodIn_app (goodIn_of _ (by decide +kernel)) ggX3_endShut_X3_openForHouse
theorem dX3_endShut_0 : decode cX3_endShut 0 = .ok (.aload_n 0, 1) := by decide +kernel
theorem dX3_endShut_1 : decode cX3_endShut 1 = .ok (.getfield 24, 3) := by decide +kernel
theorem dX3_endShut_4 : decode cX3_endShut 4 = .ok (.iload_n 1, 1) := by decide +kernel
theorem dX3_endShut_5 : decode cX3_endShut 5 = .ok (.iconst 0, 1) := by decide +kernel
theorem dX3_endShut_6 : decode cX3_endShut 6 = .ok (.iastore, 1) := by decide +kernel
theorem dX3_endShut_7 : decode cX3_endShut 7 = .ok (.aload_n 0, 1) := by decide +kernel
theorem dX3_endShut_8 : decode cX3_endShut 8 = .ok (.iload_n 1, 1) := by decide +kernel
theorem dX3_endShut_9 : decode cX3_endShut 9 = .ok (.invokevirtual 79, 3) := by decide +kernel
theorem dX3_endShut_12 : decode cX3_endShut 12 = .ok (.return_, 1) := by decide +kernel
set_option maxRecDepth 20000 in
theorem ggX3_pass_X3_tell : GoodIn wsX3_pass wsX3_tell := goodIn_r _ [7, 8, 9, 10, 11, 12, 13, 14, 15, 16, 17, 18, 6, 19, 20, 21, 22, 23, 24, 98, 99, 100, 101, 102, 103, 104, 105, 106, 107, 108, 109, 110, 111, 112, 113, 114, 115, 116, 117, 118, 119, 120, 121] (by decide +kernel) (by decide +kernel)
set_option maxRecDepth 20000 in
theorem gX3_pass_X3_tell : GoodIn wsX3_pass (wsV RX3 82 RX3 yX3_tell wsX3_tell) := goodIn_app (goodIn_of _ (by decide +kernel)) ggX3_pass_X3_tell
set_option maxRecDepth 20000 in
theorem ggX3_pass_X3_guardForHouses : GoodIn wsX3_pass wsX3_guardForHouses := goodIn_r _ [28, 29, 9, 30, 8, 31, 32, 33, 6, 34, 24, 35, 36, 37, 38, 39, 40, 41, 98, 99, 100, 101, 102, 103, 104, 105, 106, 107, 108, 109, 110, 111, 112, 113, 114, 115, 116, 117, 118, 119, 120, 121] (by decide +kernel) (by decide +kernel)
set_option maxRecDepth 20000 in
theorem gX3_pass_X3_guardForHouses : GoodIn wsX3_pass (wsV RX3 85 RX3 yX3_guardForHouses wsX3_guardForHouses) := goodIn_app (goodIn_of _ (by decide +kernel)) ggX3_pass_X3_guardForHouses
set_option maxRecDepth 20000 in
theorem ggX3_pass_X3_takeBest : GoodIn wsX3_pass wsX3_takeBest := goodIn_r _ [45, 11, 13, 15, 46, 9, 30, 8, 47, 48, 49, 50, 51, 52, 6, 53, 14, 12, 54, 55, 56, 57, 58, 10, 59, 60, 61, 62, 63, 64, 98, 99, 100, 101, 102, 103, 104, 105, 106, 107, 108, 109, 110, 111, 112, 113, 114, 115, 116, 117, 118, 119, 120, 121] (by decide +kernel) (by decide +kernel)
set_option maxRecDepth 20000 in
theorem gX3_pass_X3_takeBest : GoodIn wsX3_pass (wsV RX3 88 RX3 yX3_takeBest wsX3_takeBest) := goodIn_app (goodIn_of _ (by decide +kernel)) ggX3_pass_X3_takeBest
set_option maxRecDepth 20000 in
theorem ggX3_pass_X3_turn : GoodIn wsX3_pass wsX3_turn := goodIn_r _ [68, 40, 9, 10, 41, 39, 69, 70, 71, 6, 72, 46, 8, 20, 21, 22, 23, 24, 73, 74, 75, 76, 11, 13, 12, 59, 60, 61, 62, 63, 64, 77, 78, 79, 80, 2, 98, 99, 100, 101, 102, 103, 104, 105, 106, 107, 108, 109, 110, 111, 112, 113, 114, 115, 116, 117, 118, 119, 120, 121] (by decide +kernel) (by decide +kernel)
set_option maxRecDepth 20000 in
theorem gX3_pass_X3_turn : GoodIn wsX3_pass (wsV RX3 91 RX3 yX3_turn wsX3_turn) := goodIn_app (goodIn_of _ (by decide +kernel)) ggX3_pass_X3_turn
set_option maxRecDepth 20000 in
theorem ggX3_pass_X3_spreadStale : GoodIn wsX3_pass wsX3_spreadStale := goodIn_r _ [84, 2, 9, 10, 16, 17, 18, 6, 19, 20, 21, 22, 23, 24, 98, 99, 100, 101, 102, 103, 104, 105, 106, 107, 108, 109, 110, 111, 112, 113, 114, 115, 116, 117, 118, 119, 120, 121] (by decide +kernel) (by decide +kernel)
set_option maxRecDepth 20000 in
theorem gX3_pass_X3_spreadStale : GoodIn wsX3_pass (wsV RX3 94 RX3 yX3_spreadStale wsX3_spreadStale) := goodIn_app (goodIn_of _ (by decide +kernel)) ggX3_pass_X3_spreadStale
set_option maxRecDepth 20000 in
theorem ggX3_pass_X3_endStorms : GoodIn wsX3_pass wsX3_endStorms := goodIn_r _ [88, 24, 1, 89, 90, 91, 6, 92, 93, 94, 95, 96, 39, 9, 97, 20, 21, 22, 23, 98, 99, 100, 101, 102, 103, 104, 105, 106, 107, 108, 109, 110, 111, 112, 113, 114, 115, 116, 117, 118, 119, 120, 121] (by decide +kernel) (by decide +kernel)
set_option maxRecDepth 20000 in
theorem gX3_pass_X3_endStorms : GoodIn wsX3_pass (wsV RX3 97 RX3 yX3_endStorms wsX3_endStorms) := goodIn_app (goodIn_of _ (by decide +kernel)) ggX3_pass_X3_endStorms
theorem dX3_pass_0 : decode cX3_pass 0 = .ok (.aload_n 0, 1) := by decide +kernel
theorem dX3_pass_1 : decode cX3_pass 1 = .ok (.dup, 1) := by decide +kernel
theorem dX3_pass_2 : decode cX3_pass 2 = .ok (.getfield 59, 3) := by decide +kernel
theorem dX3_pass_5 : decode cX3_pass 5 = .ok (.iconst 1, 1) := by decide +kernel
theorem dX3_pass_6 : decode cX3_pass 6 = .ok (.iadd, 1) := by decide +kernel
theorem dX3_pass_7 : decode cX3_pass 7 = .ok (.putfield 59, 3) := by decide +kernel
theorem dX3_pass_10 : decode cX3_pass 10 = .ok (.aload_n 0, 1) := by decide +kernel
theorem dX3_pass_11 : decode cX3_pass 11 = .ok (.invokevirtual 82, 3) := by decide +kernel
theorem dX3_pass_14 : decode cX3_pass 14 = .ok (.aload_n 0, 1) := by decide +kernel
theorem dX3_pass_15 : decode cX3_pass 15 = .ok (.invokevirtual 85, 3) := by decide +kernel
theorem dX3_pass_18 : decode cX3_pass 18 = .ok (.iconst 0, 1) := by decide +kernel
theorem dX3_pass_19 : decode cX3_pass 19 = .ok (.istore_n 1, 1) := by decide +kernel
theorem dX3_pass_20 : decode cX3_pass 20 = .ok (.iload_n 1, 1) := by decide +kernel
theorem dX3_pass_21 : decode cX3_pass 21 = .ok (.bipush 6, 2) := by decide +kernel
theorem dX3_pass_23 : decode cX3_pass 23 = .ok (.if_icmp .ge 21, 3) := by decide +kernel
theorem dX3_pass_26 : decode cX3_pass 26 = .ok (.aload_n 0, 1) := by decide +kernel
theorem dX3_pass_27 : decode cX3_pass 27 = .ok (.getfield 49, 3) := by decide +kernel
theorem dX3_pass_30 : decode cX3_pass 30 = .ok (.iload_n 1, 1) := by decide +kernel
theorem dX3_pass_31 : decode cX3_pass 31 = .ok (.iconst 0, 1) := by decide +kernel
theorem dX3_pass_32 : decode cX3_pass 32 = .ok (.bastore, 1) := by decide +kernel
theorem dX3_pass_33 : decode cX3_pass 33 = .ok (.aload_n 0, 1) := by decide +kernel
theorem dX3_pass_34 : decode cX3_pass 34 = .ok (.iload_n 1, 1) := by decide +kernel
theorem dX3_pass_35 : decode cX3_pass 35 = .ok (.invokevirtual 88, 3) := by decide +kernel
theorem dX3_pass_38 : decode cX3_pass 38 = .ok (.iinc 1 1, 3) := by decide +kernel
theorem dX3_pass_41 : decode cX3_pass 41 = .ok (.goto (-21), 3) := by decide +kernel
theorem dX3_pass_44 : decode cX3_pass 44 = .ok (.iconst 0, 1) := by decide +kernel
theorem dX3_pass_45 : decode cX3_pass 45 = .ok (.istore_n 1, 1) := by decide +kernel
theorem dX3_pass_46 : decode cX3_pass 46 = .ok (.iload_n 1, 1) := by decide +kernel
theorem dX3_pass_47 : decode cX3_pass 47 = .ok (.bipush 30, 2) := by decide +kernel
theorem dX3_pass_49 : decode cX3_pass 49 = .ok (.if_icmp .ge 14, 3) := by decide +kernel
theorem dX3_pass_52 : decode cX3_pass 52 = .ok (.aload_n 0, 1) := by decide +kernel
theorem dX3_pass_53 : decode cX3_pass 53 = .ok (.iload_n 1, 1) := by decide +kernel
theorem dX3_pass_54 : decode cX3_pass 54 = .ok (.invokevirtual 91, 3) := by decide +kernel
theorem dX3_pass_57 : decode cX3_pass 57 = .ok (.iinc 1 1, 3) := by decide +kernel
theorem dX3_pass_60 : decode cX3_pass 60 = .ok (.goto (-14), 3) := by decide +kernel
theorem dX3_pass_63 : decode cX3_pass 63 = .ok (.aload_n 0, 1) := by decide +kernel
theorem dX3_pass_64 : decode cX3_pass 64 = .ok (.invokevirtual 94, 3) := by decide +kernel
theorem dX3_pass_67 : decode cX3_pass 67 = .ok (.aload_n 0, 1) := by decide +kernel
theorem dX3_pass_68 : decode cX3_pass 68 = .ok (.invokevirtual 97, 3) := by decide +kernel
theorem dX3_pass_71 : decode cX3_pass 71 = .ok (.return_, 1) := by decide +kernel
set_option maxRecDepth 20000 in
theorem ggX3_tell_X3_isJoined : GoodIn wsX3_tell wsX3_isJoined := goodIn_r _ [13, 2, 3, 14, 15, 16, 12, 17, 18, 19, 20, 21, 22, 23, 24, 25, 26, 27, 28, 29, 30, 31, 32, 33, 34, 35, 36, 37, 38, 39, 40, 41, 42] (by decide +kernel) (by decide +kernel)
set_option maxRecDepth 20000 in
theorem gX3_tell_X3_isJoined : GoodIn wsX3_tell (wsV RX3 100 RX3 yX3_isJoined wsX3_isJoined) := goodIn_app (goodIn_of _ (by decide +kernel)) ggX3_tell_X3_isJoined
theorem dX3_tell_0 : decode cX3_tell 0 = .ok (.iconst 0, 1) := by decide +kernel
theorem dX3_tell_1 : decode cX3_tell 1 = .ok (.istore_n 1, 1) := by decide +kernel
theorem dX3_tell_2 : decode cX3_tell 2 = .ok (.iload_n 1, 1) := by decide +kernel
theorem dX3_tell_3 : decode cX3_tell 3 = .ok (.bipush 30, 2) := by decide +kernel
theorem dX3_tell_5 : decode cX3_tell 5 = .ok (.if_icmp .ge 72, 3) := by decide +kernel
theorem dX3_tell_8 : decode cX3_tell 8 = .ok (.aload_n 0, 1) := by decide +kernel
theorem dX3_tell_9 : decode cX3_tell 9 = .ok (.getfield 37, 3) := by decide +kernel
theorem dX3_tell_12 : decode cX3_tell 12 = .ok (.iload_n 1, 1) := by decide +kernel
theorem dX3_tell_13 : decode cX3_tell 13 = .ok (.iconst (-1), 1) := by decide +kernel
theorem dX3_tell_14 : decode cX3_tell 14 = .ok (.iastore, 1) := by decide +kernel
theorem dX3_tell_15 : decode cX3_tell 15 = .ok (.aload_n 0, 1) := by decide +kernel
theorem dX3_tell_16 : decode cX3_tell 16 = .ok (.iload_n 1, 1) := by decide +kernel
theorem dX3_tell_17 : decode cX3_tell 17 = .ok (.invokevirtual 100, 3) := by decide +kernel
theorem dX3_tell_20 : decode cX3_tell 20 = .ok (.ifCond .eq 51, 3) := by decide +kernel
theorem dX3_tell_23 : decode cX3_tell 23 = .ok (.aload_n 0, 1) := by decide +kernel
theorem dX3_tell_24 : decode cX3_tell 24 = .ok (.getfield 55, 3) := by decide +kernel
theorem dX3_tell_27 : decode cX3_tell 27 = .ok (.getfield 63, 3) := by decide +kernel
theorem dX3_tell_30 : decode cX3_tell 30 = .ok (.iload_n 1, 1) := by decide +kernel
theorem dX3_tell_31 : decode cX3_tell 31 = .ok (.iaload, 1) := by decide +kernel
theorem dX3_tell_32 : decode cX3_tell 32 = .ok (.iconst 5, 1) := by decide +kernel
theorem dX3_tell_33 : decode cX3_tell 33 = .ok (.idiv, 1) := by decide +kernel
theorem dX3_tell_34 : decode cX3_tell 34 = .ok (.istore_n 2, 1) := by decide +kernel
theorem dX3_tell_35 : decode cX3_tell 35 = .ok (.aload_n 0, 1) := by decide +kernel
theorem dX3_tell_36 : decode cX3_tell 36 = .ok (.getfield 37, 3) := by decide +kernel
theorem dX3_tell_39 : decode cX3_tell 39 = .ok (.iload_n 1, 1) := by decide +kernel
theorem dX3_tell_40 : decode cX3_tell 40 = .ok (.aload_n 0, 1) := by decide +kernel
theorem dX3_tell_41 : decode cX3_tell 41 = .ok (.getfield 9, 3) := by decide +kernel
theorem dX3_tell_44 : decode cX3_tell 44 = .ok (.iload_n 2, 1) := by decide +kernel
theorem dX3_tell_45 : decode cX3_tell 45 = .ok (.iaload, 1) := by decide +kernel
theorem dX3_tell_46 : decode cX3_tell 46 = .ok (.iastore, 1) := by decide +kernel
theorem dX3_tell_47 : decode cX3_tell 47 = .ok (.aload_n 0, 1) := by decide +kernel
theorem dX3_tell_48 : decode cX3_tell 48 = .ok (.getfield 40, 3) := by decide +kernel
theorem dX3_tell_51 : decode cX3_tell 51 = .ok (.iload_n 1, 1) := by decide +kernel
theorem dX3_tell_52 : decode cX3_tell 52 = .ok (.aload_n 0, 1) := by decide +kernel
theorem dX3_tell_53 : decode cX3_tell 53 = .ok (.getfield 15, 3) := by decide +kernel
theorem dX3_tell_56 : decode cX3_tell 56 = .ok (.iload_n 2, 1) := by decide +kernel
theorem dX3_tell_57 : decode cX3_tell 57 = .ok (.iaload, 1) := by decide +kernel
theorem dX3_tell_58 : decode cX3_tell 58 = .ok (.iastore, 1) := by decide +kernel
theorem dX3_tell_59 : decode cX3_tell 59 = .ok (.aload_n 0, 1) := by decide +kernel
theorem dX3_tell_60 : decode cX3_tell 60 = .ok (.getfield 43, 3) := by decide +kernel
theorem dX3_tell_63 : decode cX3_tell 63 = .ok (.iload_n 1, 1) := by decide +kernel
theorem dX3_tell_64 : decode cX3_tell 64 = .ok (.aload_n 0, 1) := by decide +kernel
theorem dX3_tell_65 : decode cX3_tell 65 = .ok (.getfield 18, 3) := by decide +kernel
theorem dX3_tell_68 : decode cX3_tell 68 = .ok (.iload_n 2, 1) := by decide +kernel
theorem dX3_tell_69 : decode cX3_tell 69 = .ok (.iaload, 1) := by decide +kernel
theorem dX3_tell_70 : decode cX3_tell 70 = .ok (.iastore, 1) := by decide +kernel
theorem dX3_tell_71 : decode cX3_tell 71 = .ok (.iinc 1 1, 3) := by decide +kernel
theorem dX3_tell_74 : decode cX3_tell 74 = .ok (.goto (-72), 3) := by decide +kernel
theorem dX3_tell_77 : decode cX3_tell 77 = .ok (.return_, 1) := by decide +kernel
set_option maxRecDepth 20000 in
theorem ggX3_guardForHouses_X3_beginShut : GoodIn wsX3_guardForHouses wsX3_beginShut := goodIn_r _ [9, 10, 11, 12, 13, 8, 14, 15, 16, 17, 18, 19, 20, 21, 22, 23, 24, 25, 26, 27, 28, 29, 30, 31, 32, 33] (by decide +kernel) (by decide +kernel)
set_option maxRecDepth 20000 in
theorem gX3_guardForHouses_X3_beginShut : GoodIn wsX3_guardForHouses (wsV RX3 106 RX3 yX3_beginShut wsX3_beginShut) := goodIn_app (goodIn_of _ (by decide +kernel)) ggX3_guardForHouses_X3_beginShut
theorem dX3_guardForHouses_0 : decode cX3_guardForHouses 0 = .ok (.iconst 0, 1) := by decide +kernel
theorem dX3_guardForHouses_1 : decode cX3_guardForHouses 1 = .ok (.istore_n 1, 1) := by decide +kernel
theorem dX3_guardForHouses_2 : decode cX3_guardForHouses 2 = .ok (.iload_n 1, 1) := by decide +kernel
theorem dX3_guardForHouses_3 : decode cX3_guardForHouses 3 = .ok (.bipush 30, 2) := by decide +kernel
theorem dX3_guardForHouses_5 : decode cX3_guardForHouses 5 = .ok (.if_icmp .ge 65, 3) := by decide +kernel
theorem dX3_guardForHouses_8 : decode cX3_guardForHouses 8 = .ok (.aload_n 0, 1) := by decide +kernel
theorem dX3_guardForHouses_9 : decode cX3_guardForHouses 9 = .ok (.getfield 46, 3) := by decide +kernel
theorem dX3_guardForHouses_12 : decode cX3_guardForHouses 12 = .ok (.iload_n 1, 1) := by decide +kernel
theorem dX3_guardForHouses_13 : decode cX3_guardForHouses 13 = .ok (.aload_n 0, 1) := by decide +kernel
theorem dX3_guardForHouses_14 : decode cX3_guardForHouses 14 = .ok (.getfield 55, 3) := by decide +kernel
theorem dX3_guardForHouses_17 : decode cX3_guardForHouses 17 = .ok (.getfield 103, 3) := by decide +kernel
theorem dX3_guardForHouses_20 : decode cX3_guardForHouses 20 = .ok (.iload_n 1, 1) := by decide +kernel
theorem dX3_guardForHouses_21 : decode cX3_guardForHouses 21 = .ok (.iaload, 1) := by decide +kernel
theorem dX3_guardForHouses_22 : decode cX3_guardForHouses 22 = .ok (.iconst 2, 1) := by decide +kernel
theorem dX3_guardForHouses_23 : decode cX3_guardForHouses 23 = .ok (.if_icmp .ne 17, 3) := by decide +kernel
theorem dX3_guardForHouses_26 : decode cX3_guardForHouses 26 = .ok (.aload_n 0, 1) := by decide +kernel
theorem dX3_guardForHouses_27 : decode cX3_guardForHouses 27 = .ok (.getfield 37, 3) := by decide +kernel
theorem dX3_guardForHouses_30 : decode cX3_guardForHouses 30 = .ok (.iload_n 1, 1) := by decide +kernel
theorem dX3_guardForHouses_31 : decode cX3_guardForHouses 31 = .ok (.iaload, 1) := by decide +kernel
theorem dX3_guardForHouses_32 : decode cX3_guardForHouses 32 = .ok (.iconst (-1), 1) := by decide +kernel
theorem dX3_guardForHouses_33 : decode cX3_guardForHouses 33 = .ok (.if_icmp .eq 7, 3) := by decide +kernel
theorem dX3_guardForHouses_36 : decode cX3_guardForHouses 36 = .ok (.iconst 1, 1) := by decide +kernel
theorem dX3_guardForHouses_37 : decode cX3_guardForHouses 37 = .ok (.goto 4, 3) := by decide +kernel
theorem dX3_guardForHouses_40 : decode cX3_guardForHouses 40 = .ok (.iconst 0, 1) := by decide +kernel
theorem dX3_guardForHouses_41 : decode cX3_guardForHouses 41 = .ok (.bastore, 1) := by decide +kernel
theorem dX3_guardForHouses_42 : decode cX3_guardForHouses 42 = .ok (.aload_n 0, 1) := by decide +kernel
theorem dX3_guardForHouses_43 : decode cX3_guardForHouses 43 = .ok (.getfield 46, 3) := by decide +kernel
theorem dX3_guardForHouses_46 : decode cX3_guardForHouses 46 = .ok (.iload_n 1, 1) := by decide +kernel
theorem dX3_guardForHouses_47 : decode cX3_guardForHouses 47 = .ok (.baload, 1) := by decide +kernel
theorem dX3_guardForHouses_48 : decode cX3_guardForHouses 48 = .ok (.ifCond .eq 16, 3) := by decide +kernel
theorem dX3_guardForHouses_51 : decode cX3_guardForHouses 51 = .ok (.aload_n 0, 1) := by decide +kernel
theorem dX3_guardForHouses_52 : decode cX3_guardForHouses 52 = .ok (.getfield 37, 3) := by decide +kernel
theorem dX3_guardForHouses_55 : decode cX3_guardForHouses 55 = .ok (.iload_n 1, 1) := by decide +kernel
theorem dX3_guardForHouses_56 : decode cX3_guardForHouses 56 = .ok (.iconst (-1), 1) := by decide +kernel
theorem dX3_guardForHouses_57 : decode cX3_guardForHouses 57 = .ok (.iastore, 1) := by decide +kernel
theorem dX3_guardForHouses_58 : decode cX3_guardForHouses 58 = .ok (.aload_n 0, 1) := by decide +kernel
theorem dX3_guardForHouses_59 : decode cX3_guardForHouses 59 = .ok (.iload_n 1, 1) := by decide +kernel
theorem dX3_guardForHouses_60 : decode cX3_guardForHouses 60 = .ok (.iconst (-1), 1) := by decide +kernel
theorem dX3_guardForHouses_61 : decode cX3_guardForHouses 61 = .ok (.invokevirtual 106, 3) := by decide +kernel
theorem dX3_guardForHouses_64 : decode cX3_guardForHouses 64 = .ok (.iinc 1 1, 3) := by decide +kernel
theorem dX3_guardForHouses_67 : decode cX3_guardForHouses 67 = .ok (.goto (-65), 3) := by decide +kernel
theorem dX3_guardForHouses_70 : decode cX3_guardForHouses 70 = .ok (.return_, 1) := by decide +kernel
set_option maxRecDepth 20000 in
theorem ggX3_takeBest_X5_spotOf : GoodIn wsX3_takeBest wsX5_spotOf := goodIn_r _ [10] (by decide +kernel) (by decide +kernel)
set_option maxRecDepth 20000 in
theorem gX3_takeBest_X5_spotOf_n110 : GoodIn wsX3_takeBest (wsX5_spotOf) := ggX3_takeBest_X5_spotOf
set_option maxRecDepth 20000 in
theorem ggX3_takeBest_X3_offer : GoodIn wsX3_takeBest wsX3_offer := goodIn_r _ [15, 7, 16, 1, 2, 17, 5, 18, 3, 4, 19, 20, 21, 14, 22, 23, 24, 25, 26, 27, 28, 29, 8, 9, 10, 30, 31, 32, 33, 34, 35, 36, 37, 38, 39, 40, 41, 42, 43, 44, 45, 46, 47, 48, 49, 50, 51, 52, 53] (by decide +kernel) (by decide +kernel)
set_option maxRecDepth 20000 in
theorem gX3_takeBest_X3_offer : GoodIn wsX3_takeBest (wsV RX3 114 RX3 yX3_offer wsX3_offer) := goodIn_app (goodIn_of _ (by decide +kernel)) ggX3_takeBest_X3_offer
set_option maxRecDepth 20000 in
theorem ggX3_takeBest_X4_isBetterName : GoodIn wsX3_takeBest wsX4_isBetterName := goodIn_r _ [28, 29, 46, 47, 48, 49, 50, 51, 52, 53] (by decide +kernel) (by decide +kernel)
set_option maxRecDepth 20000 in
theorem gX3_takeBest_X4_isBetterName : GoodIn wsX3_takeBest (wsV RX3 117 RX4 yX4_isBetterName wsX4_isBetterName) := goodIn_app (goodIn_of _ (by decide +kernel)) ggX3_takeBest_X4_isBetterName
theorem dX3_takeBest_0 : decode cX3_takeBest 0 = .ok (.aload_n 0, 1) := by decide +kernel
theorem dX3_takeBest_1 : decode cX3_takeBest 1 = .ok (.getfield 9, 3) := by decide +kernel
theorem dX3_takeBest_4 : decode cX3_takeBest 4 = .ok (.iload_n 1, 1) := by decide +kernel
theorem dX3_takeBest_5 : decode cX3_takeBest 5 = .ok (.iload_n 1, 1) := by decide +kernel
theorem dX3_takeBest_6 : decode cX3_takeBest 6 = .ok (.iastore, 1) := by decide +kernel
theorem dX3_takeBest_7 : decode cX3_takeBest 7 = .ok (.aload_n 0, 1) := by decide +kernel
theorem dX3_takeBest_8 : decode cX3_takeBest 8 = .ok (.getfield 15, 3) := by decide +kernel
theorem dX3_takeBest_11 : decode cX3_takeBest 11 = .ok (.iload_n 1, 1) := by decide +kernel
theorem dX3_takeBest_12 : decode cX3_takeBest 12 = .ok (.iconst 0, 1) := by decide +kernel
theorem dX3_takeBest_13 : decode cX3_takeBest 13 = .ok (.iastore, 1) := by decide +kernel
theorem dX3_takeBest_14 : decode cX3_takeBest 14 = .ok (.aload_n 0, 1) := by decide +kernel
theorem dX3_takeBest_15 : decode cX3_takeBest 15 = .ok (.getfield 18, 3) := by decide +kernel
theorem dX3_takeBest_18 : decode cX3_takeBest 18 = .ok (.iload_n 1, 1) := by decide +kernel
theorem dX3_takeBest_19 : decode cX3_takeBest 19 = .ok (.iconst 0, 1) := by decide +kernel
theorem dX3_takeBest_20 : decode cX3_takeBest 20 = .ok (.iastore, 1) := by decide +kernel
theorem dX3_takeBest_21 : decode cX3_takeBest 21 = .ok (.aload_n 0, 1) := by decide +kernel
theorem dX3_takeBest_22 : decode cX3_takeBest 22 = .ok (.getfield 21, 3) := by decide +kernel
theorem dX3_takeBest_25 : decode cX3_takeBest 25 = .ok (.iload_n 1, 1) := by decide +kernel
theorem dX3_takeBest_26 : decode cX3_takeBest 26 = .ok (.iconst (-1), 1) := by decide +kernel
theorem dX3_takeBest_27 : decode cX3_takeBest 27 = .ok (.iastore, 1) := by decide +kernel
theorem dX3_takeBest_28 : decode cX3_takeBest 28 = .ok (.iload_n 1, 1) := by decide +kernel
theorem dX3_takeBest_29 : decode cX3_takeBest 29 = .ok (.iconst 0, 1) := by decide +kernel
theorem dX3_takeBest_30 : decode cX3_takeBest 30 = .ok (.invokestatic 110, 3) := by decide +kernel
theorem dX3_takeBest_33 : decode cX3_takeBest 33 = .ok (.istore_n 2, 1) := by decide +kernel
theorem dX3_takeBest_34 : decode cX3_takeBest 34 = .ok (.iload_n 2, 1) := by decide +kernel
theorem dX3_takeBest_35 : decode cX3_takeBest 35 = .ok (.istore_n 3, 1) := by decide +kernel
theorem dX3_takeBest_36 : decode cX3_takeBest 36 = .ok (.iload_n 3, 1) := by decide +kernel
theorem dX3_takeBest_37 : decode cX3_takeBest 37 = .ok (.iload_n 2, 1) := by decide +kernel
theorem dX3_takeBest_38 : decode cX3_takeBest 38 = .ok (.iconst 5, 1) := by decide +kernel
theorem dX3_takeBest_39 : decode cX3_takeBest 39 = .ok (.iadd, 1) := by decide +kernel
theorem dX3_takeBest_40 : decode cX3_takeBest 40 = .ok (.if_icmp .ge 28, 3) := by decide +kernel
theorem dX3_takeBest_43 : decode cX3_takeBest 43 = .ok (.aload_n 0, 1) := by decide +kernel
theorem dX3_takeBest_44 : decode cX3_takeBest 44 = .ok (.getfield 55, 3) := by decide +kernel
theorem dX3_takeBest_47 : decode cX3_takeBest 47 = .ok (.getfield 103, 3) := by decide +kernel
theorem dX3_takeBest_50 : decode cX3_takeBest 50 = .ok (.iload_n 3, 1) := by decide +kernel
theorem dX3_takeBest_51 : decode cX3_takeBest 51 = .ok (.iaload, 1) := by decide +kernel
theorem dX3_takeBest_52 : decode cX3_takeBest 52 = .ok (.iconst 1, 1) := by decide +kernel
theorem dX3_takeBest_53 : decode cX3_takeBest 53 = .ok (.if_icmp .eq 9, 3) := by decide +kernel
theorem dX3_takeBest_56 : decode cX3_takeBest 56 = .ok (.aload_n 0, 1) := by decide +kernel
theorem dX3_takeBest_57 : decode cX3_takeBest 57 = .ok (.iload_n 1, 1) := by decide +kernel
theorem dX3_takeBest_58 : decode cX3_takeBest 58 = .ok (.iload_n 3, 1) := by decide +kernel
theorem dX3_takeBest_59 : decode cX3_takeBest 59 = .ok (.invokevirtual 114, 3) := by decide +kernel
theorem dX3_takeBest_62 : decode cX3_takeBest 62 = .ok (.iinc 3 1, 3) := by decide +kernel
theorem dX3_takeBest_65 : decode cX3_takeBest 65 = .ok (.goto (-29), 3) := by decide +kernel
theorem dX3_takeBest_68 : decode cX3_takeBest 68 = .ok (.aload_n 0, 1) := by decide +kernel
theorem dX3_takeBest_69 : decode cX3_takeBest 69 = .ok (.getfield 9, 3) := by decide +kernel
theorem dX3_takeBest_72 : decode cX3_takeBest 72 = .ok (.iload_n 1, 1) := by decide +kernel
theorem dX3_takeBest_73 : decode cX3_takeBest 73 = .ok (.iaload, 1) := by decide +kernel
theorem dX3_takeBest_74 : decode cX3_takeBest 74 = .ok (.istore_n 3, 1) := by decide +kernel
theorem dX3_takeBest_75 : decode cX3_takeBest 75 = .ok (.iload_n 2, 1) := by decide +kernel
theorem dX3_takeBest_76 : decode cX3_takeBest 76 = .ok (.istore 4, 2) := by decide +kernel
theorem dX3_takeBest_78 : decode cX3_takeBest 78 = .ok (.iload 4, 2) := by decide +kernel
theorem dX3_takeBest_80 : decode cX3_takeBest 80 = .ok (.iload_n 2, 1) := by decide +kernel
theorem dX3_takeBest_81 : decode cX3_takeBest 81 = .ok (.iconst 5, 1) := by decide +kernel
theorem dX3_takeBest_82 : decode cX3_takeBest 82 = .ok (.iadd, 1) := by decide +kernel
theorem dX3_takeBest_83 : decode cX3_takeBest 83 = .ok (.if_icmp .ge 59, 3) := by decide +kernel
theorem dX3_takeBest_86 : decode cX3_takeBest 86 = .ok (.aload_n 0, 1) := by decide +kernel
theorem dX3_takeBest_87 : decode cX3_takeBest 87 = .ok (.getfield 55, 3) := by decide +kernel
theorem dX3_takeBest_90 : decode cX3_takeBest 90 = .ok (.getfield 103, 3) := by decide +kernel
theorem dX3_takeBest_93 : decode cX3_takeBest 93 = .ok (.iload 4, 2) := by decide +kernel
theorem dX3_takeBest_95 : decode cX3_takeBest 95 = .ok (.iaload, 1) := by decide +kernel
theorem dX3_takeBest_96 : decode cX3_takeBest 96 = .ok (.iconst 1, 1) := by decide +kernel
theorem dX3_takeBest_97 : decode cX3_takeBest 97 = .ok (.if_icmp .ne 39, 3) := by decide +kernel
theorem dX3_takeBest_100 : decode cX3_takeBest 100 = .ok (.aload_n 0, 1) := by decide +kernel
theorem dX3_takeBest_101 : decode cX3_takeBest 101 = .ok (.getfield 37, 3) := by decide +kernel
theorem dX3_takeBest_104 : decode cX3_takeBest 104 = .ok (.iload 4, 2) := by decide +kernel
theorem dX3_takeBest_106 : decode cX3_takeBest 106 = .ok (.iaload, 1) := by decide +kernel
theorem dX3_takeBest_107 : decode cX3_takeBest 107 = .ok (.iconst (-1), 1) := by decide +kernel
theorem dX3_takeBest_108 : decode cX3_takeBest 108 = .ok (.if_icmp .eq 28, 3) := by decide +kernel
theorem dX3_takeBest_111 : decode cX3_takeBest 111 = .ok (.aload_n 0, 1) := by decide +kernel
theorem dX3_takeBest_112 : decode cX3_takeBest 112 = .ok (.getfield 55, 3) := by decide +kernel
theorem dX3_takeBest_115 : decode cX3_takeBest 115 = .ok (.aload_n 0, 1) := by decide +kernel
theorem dX3_takeBest_116 : decode cX3_takeBest 116 = .ok (.getfield 37, 3) := by decide +kernel
theorem dX3_takeBest_119 : decode cX3_takeBest 119 = .ok (.iload 4, 2) := by decide +kernel
theorem dX3_takeBest_121 : decode cX3_takeBest 121 = .ok (.iaload, 1) := by decide +kernel
theorem dX3_takeBest_122 : decode cX3_takeBest 122 = .ok (.iload_n 3, 1) := by decide +kernel
theorem dX3_takeBest_123 : decode cX3_takeBest 123 = .ok (.invokevirtual 117, 3) := by decide +kernel
theorem dX3_takeBest_126 : decode cX3_takeBest 126 = .ok (.ifCond .ne 10, 3) := by decide +kernel
theorem dX3_takeBest_129 : decode cX3_takeBest 129 = .ok (.aload_n 0, 1) := by decide +kernel
theorem dX3_takeBest_130 : decode cX3_takeBest 130 = .ok (.iload_n 1, 1) := by decide +kernel
theorem dX3_takeBest_131 : decode cX3_takeBest 131 = .ok (.iload 4, 2) := by decide +kernel
theorem dX3_takeBest_133 : decode cX3_takeBest 133 = .ok (.invokevirtual 114, 3) := by decide +kernel
theorem dX3_takeBest_136 : decode cX3_takeBest 136 = .ok (.iinc 4 1, 3) := by decide +kernel
theorem dX3_takeBest_139 : decode cX3_takeBest 139 = .ok (.goto (-61), 3) := by decide +kernel
theorem dX3_takeBest_142 : decode cX3_takeBest 142 = .ok (.return_, 1) := by decide +kernel
set_option maxRecDepth 20000 in
theorem ggX3_offer_X3_isBetterThanHeld : GoodIn wsX3_offer wsX3_isBetterThanHeld := goodIn_r _ [14, 1, 3, 6, 5, 7, 4, 9, 15, 16, 17, 18, 19, 20, 21, 22, 23, 24, 25, 26, 27, 28, 29, 30, 31, 32, 33, 34, 35, 36, 37, 38, 39, 40, 41, 42, 43, 44, 45, 46, 47, 48] (by decide +kernel) (by decide +kernel)
set_option maxRecDepth 20000 in
theorem gX3_offer_X3_isBetterThanHeld : GoodIn wsX3_offer (wsV RX3 121 RX3 yX3_isBetterThanHeld wsX3_isBetterThanHeld) := goodIn_app (goodIn_of _ (by decide +kernel)) ggX3_offer_X3_isBetterThanHeld
theorem dX3_offer_0 : decode cX3_offer 0 = .ok (.aload_n 0, 1) := by decide +kernel
theorem dX3_offer_1 : decode cX3_offer 1 = .ok (.getfield 37, 3) := by decide +kernel
theorem dX3_offer_4 : decode cX3_offer 4 = .ok (.iload_n 2, 1) := by decide +kernel
theorem dX3_offer_5 : decode cX3_offer 5 = .ok (.iaload, 1) := by decide +kernel
theorem dX3_offer_6 : decode cX3_offer 6 = .ok (.iconst (-1), 1) := by decide +kernel
theorem dX3_offer_7 : decode cX3_offer 7 = .ok (.if_icmp .eq 23, 3) := by decide +kernel
theorem dX3_offer_10 : decode cX3_offer 10 = .ok (.aload_n 0, 1) := by decide +kernel
theorem dX3_offer_11 : decode cX3_offer 11 = .ok (.getfield 43, 3) := by decide +kernel
theorem dX3_offer_14 : decode cX3_offer 14 = .ok (.iload_n 2, 1) := by decide +kernel
theorem dX3_offer_15 : decode cX3_offer 15 = .ok (.iaload, 1) := by decide +kernel
theorem dX3_offer_16 : decode cX3_offer 16 = .ok (.bipush 7, 2) := by decide +kernel
theorem dX3_offer_18 : decode cX3_offer 18 = .ok (.if_icmp .ge 12, 3) := by decide +kernel
theorem dX3_offer_21 : decode cX3_offer 21 = .ok (.aload_n 0, 1) := by decide +kernel
theorem dX3_offer_22 : decode cX3_offer 22 = .ok (.iload_n 1, 1) := by decide +kernel
theorem dX3_offer_23 : decode cX3_offer 23 = .ok (.iload_n 2, 1) := by decide +kernel
theorem dX3_offer_24 : decode cX3_offer 24 = .ok (.invokevirtual 121, 3) := by decide +kernel
theorem dX3_offer_27 : decode cX3_offer 27 = .ok (.ifCond .ne 4, 3) := by decide +kernel
theorem dX3_offer_30 : decode cX3_offer 30 = .ok (.return_, 1) := by decide +kernel
theorem dX3_offer_31 : decode cX3_offer 31 = .ok (.aload_n 0, 1) := by decide +kernel
theorem dX3_offer_32 : decode cX3_offer 32 = .ok (.getfield 9, 3) := by decide +kernel
theorem dX3_offer_35 : decode cX3_offer 35 = .ok (.iload_n 1, 1) := by decide +kernel
theorem dX3_offer_36 : decode cX3_offer 36 = .ok (.aload_n 0, 1) := by decide +kernel
theorem dX3_offer_37 : decode cX3_offer 37 = .ok (.getfield 37, 3) := by decide +kernel
theorem dX3_offer_40 : decode cX3_offer 40 = .ok (.iload_n 2, 1) := by decide +kernel
theorem dX3_offer_41 : decode cX3_offer 41 = .ok (.iaload, 1) := by decide +kernel
theorem dX3_offer_42 : decode cX3_offer 42 = .ok (.iastore, 1) := by decide +kernel
theorem dX3_offer_43 : decode cX3_offer 43 = .ok (.aload_n 0, 1) := by decide +kernel
theorem dX3_offer_44 : decode cX3_offer 44 = .ok (.getfield 15, 3) := by decide +kernel
theorem dX3_offer_47 : decode cX3_offer 47 = .ok (.iload_n 1, 1) := by decide +kernel
theorem dX3_offer_48 : decode cX3_offer 48 = .ok (.aload_n 0, 1) := by decide +kernel
theorem dX3_offer_49 : decode cX3_offer 49 = .ok (.getfield 40, 3) := by decide +kernel
theorem dX3_offer_52 : decode cX3_offer 52 = .ok (.iload_n 2, 1) := by decide +kernel
theorem dX3_offer_53 : decode cX3_offer 53 = .ok (.iaload, 1) := by decide +kernel
theorem dX3_offer_54 : decode cX3_offer 54 = .ok (.aload_n 0, 1) := by decide +kernel
theorem dX3_offer_55 : decode cX3_offer 55 = .ok (.getfield 55, 3) := by decide +kernel
theorem dX3_offer_58 : decode cX3_offer 58 = .ok (.getfield 124, 3) := by decide +kernel
theorem dX3_offer_61 : decode cX3_offer 61 = .ok (.iload_n 2, 1) := by decide +kernel
theorem dX3_offer_62 : decode cX3_offer 62 = .ok (.iaload, 1) := by decide +kernel
theorem dX3_offer_63 : decode cX3_offer 63 = .ok (.iadd, 1) := by decide +kernel
theorem dX3_offer_64 : decode cX3_offer 64 = .ok (.iastore, 1) := by decide +kernel
theorem dX3_offer_65 : decode cX3_offer 65 = .ok (.aload_n 0, 1) := by decide +kernel
theorem dX3_offer_66 : decode cX3_offer 66 = .ok (.getfield 18, 3) := by decide +kernel
theorem dX3_offer_69 : decode cX3_offer 69 = .ok (.iload_n 1, 1) := by decide +kernel
theorem dX3_offer_70 : decode cX3_offer 70 = .ok (.aload_n 0, 1) := by decide +kernel
theorem dX3_offer_71 : decode cX3_offer 71 = .ok (.getfield 43, 3) := by decide +kernel
theorem dX3_offer_74 : decode cX3_offer 74 = .ok (.iload_n 2, 1) := by decide +kernel
theorem dX3_offer_75 : decode cX3_offer 75 = .ok (.iaload, 1) := by decide +kernel
theorem dX3_offer_76 : decode cX3_offer 76 = .ok (.iconst 1, 1) := by decide +kernel
theorem dX3_offer_77 : decode cX3_offer 77 = .ok (.iadd, 1) := by decide +kernel
theorem dX3_offer_78 : decode cX3_offer 78 = .ok (.iastore, 1) := by decide +kernel
theorem dX3_offer_79 : decode cX3_offer 79 = .ok (.aload_n 0, 1) := by decide +kernel
theorem dX3_offer_80 : decode cX3_offer 80 = .ok (.getfield 21, 3) := by decide +kernel
theorem dX3_offer_83 : decode cX3_offer 83 = .ok (.iload_n 1, 1) := by decide +kernel
theorem dX3_offer_84 : decode cX3_offer 84 = .ok (.iload_n 2, 1) := by decide +kernel
theorem dX3_offer_85 : decode cX3_offer 85 = .ok (.iconst 5, 1) := by decide +kernel
theorem dX3_offer_86 : decode cX3_offer 86 = .ok (.irem, 1) := by decide +kernel
theorem dX3_offer_87 : decode cX3_offer 87 = .ok (.iastore, 1) := by decide +kernel
theorem dX3_offer_88 : decode cX3_offer 88 = .ok (.return_, 1) := by decide +kernel
set_option maxRecDepth 20000 in
theorem ggX3_isBetterThanHeld_X4_isBetterName : GoodIn wsX3_isBetterThanHeld wsX4_isBetterName := goodIn_r _ [13, 14, 34, 35, 36, 37, 38, 39, 40, 41] (by decide +kernel) (by decide +kernel)
set_option maxRecDepth 20000 in
theorem gX3_isBetterThanHeld_X4_isBetterName : GoodIn wsX3_isBetterThanHeld (wsV RX3 117 RX4 yX4_isBetterName wsX4_isBetterName) := goodIn_app (goodIn_of _ (by decide +kernel)) ggX3_isBetterThanHeld_X4_isBetterName
set_option maxRecDepth 20000 in
theorem ggX3_isBetterThanHeld_X5_spotOf : GoodIn wsX3_isBetterThanHeld wsX5_spotOf := goodIn_r _ [17] (by decide +kernel) (by decide +kernel)
set_option maxRecDepth 20000 in
theorem gX3_isBetterThanHeld_X5_spotOf_n110 : GoodIn wsX3_isBetterThanHeld (wsX5_spotOf) := ggX3_isBetterThanHeld_X5_spotOf
theorem dX3_isBetterThanHeld_0 : decode cX3_isBetterThanHeld 0 = .ok (.aload_n 0, 1) := by decide +kernel
theorem dX3_isBetterThanHeld_1 : decode cX3_isBetterThanHeld 1 = .ok (.getfield 37, 3) := by decide +kernel
theorem dX3_isBetterThanHeld_4 : decode cX3_isBetterThanHeld 4 = .ok (.iload_n 2, 1) := by decide +kernel
theorem dX3_isBetterThanHeld_5 : decode cX3_isBetterThanHeld 5 = .ok (.iaload, 1) := by decide +kernel
theorem dX3_isBetterThanHeld_6 : decode cX3_isBetterThanHeld 6 = .ok (.aload_n 0, 1) := by decide +kernel
theorem dX3_isBetterThanHeld_7 : decode cX3_isBetterThanHeld 7 = .ok (.getfield 9, 3) := by decide +kernel
theorem dX3_isBetterThanHeld_10 : decode cX3_isBetterThanHeld 10 = .ok (.iload_n 1, 1) := by decide +kernel
theorem dX3_isBetterThanHeld_11 : decode cX3_isBetterThanHeld 11 = .ok (.iaload, 1) := by decide +kernel
theorem dX3_isBetterThanHeld_12 : decode cX3_isBetterThanHeld 12 = .ok (.if_icmp .eq 23, 3) := by decide +kernel
theorem dX3_isBetterThanHeld_15 : decode cX3_isBetterThanHeld 15 = .ok (.aload_n 0, 1) := by decide +kernel
theorem dX3_isBetterThanHeld_16 : decode cX3_isBetterThanHeld 16 = .ok (.getfield 55, 3) := by decide +kernel
theorem dX3_isBetterThanHeld_19 : decode cX3_isBetterThanHeld 19 = .ok (.aload_n 0, 1) := by decide +kernel
theorem dX3_isBetterThanHeld_20 : decode cX3_isBetterThanHeld 20 = .ok (.getfield 37, 3) := by decide +kernel
theorem dX3_isBetterThanHeld_23 : decode cX3_isBetterThanHeld 23 = .ok (.iload_n 2, 1) := by decide +kernel
theorem dX3_isBetterThanHeld_24 : decode cX3_isBetterThanHeld 24 = .ok (.iaload, 1) := by decide +kernel
end
section
theorem dX3_isBetterThanHeld_25 : decode cX3_isBetterThanHeld 25 = .ok (.aload_n 0, 1) := by decide +kernel
theorem dX3_isBetterThanHeld_26 : decode cX3_isBetterThanHeld 26 = .ok (.getfield 9, 3) := by decide +kernel
theorem dX3_isBetterThanHeld_29 : decode cX3_isBetterThanHeld 29 = .ok (.iload_n 1, 1) := by decide +kernel
theorem dX3_isBetterThanHeld_30 : decode cX3_isBetterThanHeld 30 = .ok (.iaload, 1) := by decide +kernel
theorem dX3_isBetterThanHeld_31 : decode cX3_isBetterThanHeld 31 = .ok (.invokevirtual 117, 3) := by decide +kernel
theorem dX3_isBetterThanHeld_34 : decode cX3_isBetterThanHeld 34 = .ok (.ireturn, 1) := by decide +kernel
theorem dX3_isBetterThanHeld_35 : decode cX3_isBetterThanHeld 35 = .ok (.aload_n 0, 1) := by decide +kernel
theorem dX3_isBetterThanHeld_36 : decode cX3_isBetterThanHeld 36 = .ok (.getfield 40, 3) := by decide +kernel
theorem dX3_isBetterThanHeld_39 : decode cX3_isBetterThanHeld 39 = .ok (.iload_n 2, 1) := by decide +kernel
theorem dX3_isBetterThanHeld_40 : decode cX3_isBetterThanHeld 40 = .ok (.iaload, 1) := by decide +kernel
theorem dX3_isBetterThanHeld_41 : decode cX3_isBetterThanHeld 41 = .ok (.aload_n 0, 1) := by decide +kernel
theorem dX3_isBetterThanHeld_42 : decode cX3_isBetterThanHeld 42 = .ok (.getfield 55, 3) := by decide +kernel
theorem dX3_isBetterThanHeld_45 : decode cX3_isBetterThanHeld 45 = .ok (.getfield 124, 3) := by decide +kernel
theorem dX3_isBetterThanHeld_48 : decode cX3_isBetterThanHeld 48 = .ok (.iload_n 2, 1) := by decide +kernel
theorem dX3_isBetterThanHeld_49 : decode cX3_isBetterThanHeld 49 = .ok (.iaload, 1) := by decide +kernel
theorem dX3_isBetterThanHeld_50 : decode cX3_isBetterThanHeld 50 = .ok (.iadd, 1) := by decide +kernel
theorem dX3_isBetterThanHeld_51 : decode cX3_isBetterThanHeld 51 = .ok (.istore_n 3, 1) := by decide +kernel
theorem dX3_isBetterThanHeld_52 : decode cX3_isBetterThanHeld 52 = .ok (.iload_n 3, 1) := by decide +kernel
theorem dX3_isBetterThanHeld_53 : decode cX3_isBetterThanHeld 53 = .ok (.aload_n 0, 1) := by decide +kernel
theorem dX3_isBetterThanHeld_54 : decode cX3_isBetterThanHeld 54 = .ok (.getfield 15, 3) := by decide +kernel
theorem dX3_isBetterThanHeld_57 : decode cX3_isBetterThanHeld 57 = .ok (.iload_n 1, 1) := by decide +kernel
theorem dX3_isBetterThanHeld_58 : decode cX3_isBetterThanHeld 58 = .ok (.iaload, 1) := by decide +kernel
theorem dX3_isBetterThanHeld_59 : decode cX3_isBetterThanHeld 59 = .ok (.if_icmp .ne 13, 3) := by decide +kernel
theorem dX3_isBetterThanHeld_62 : decode cX3_isBetterThanHeld 62 = .ok (.aload_n 0, 1) := by decide +kernel
theorem dX3_isBetterThanHeld_63 : decode cX3_isBetterThanHeld 63 = .ok (.getfield 21, 3) := by decide +kernel
theorem dX3_isBetterThanHeld_66 : decode cX3_isBetterThanHeld 66 = .ok (.iload_n 1, 1) := by decide +kernel
theorem dX3_isBetterThanHeld_67 : decode cX3_isBetterThanHeld 67 = .ok (.iaload, 1) := by decide +kernel
theorem dX3_isBetterThanHeld_68 : decode cX3_isBetterThanHeld 68 = .ok (.iconst (-1), 1) := by decide +kernel
theorem dX3_isBetterThanHeld_69 : decode cX3_isBetterThanHeld 69 = .ok (.if_icmp .ne 19, 3) := by decide +kernel
theorem dX3_isBetterThanHeld_72 : decode cX3_isBetterThanHeld 72 = .ok (.iload_n 3, 1) := by decide +kernel
theorem dX3_isBetterThanHeld_73 : decode cX3_isBetterThanHeld 73 = .ok (.aload_n 0, 1) := by decide +kernel
theorem dX3_isBetterThanHeld_74 : decode cX3_isBetterThanHeld 74 = .ok (.getfield 15, 3) := by decide +kernel
theorem dX3_isBetterThanHeld_77 : decode cX3_isBetterThanHeld 77 = .ok (.iload_n 1, 1) := by decide +kernel
theorem dX3_isBetterThanHeld_78 : decode cX3_isBetterThanHeld 78 = .ok (.iaload, 1) := by decide +kernel
theorem dX3_isBetterThanHeld_79 : decode cX3_isBetterThanHeld 79 = .ok (.if_icmp .ge 7, 3) := by decide +kernel
theorem dX3_isBetterThanHeld_82 : decode cX3_isBetterThanHeld 82 = .ok (.iconst 1, 1) := by decide +kernel
theorem dX3_isBetterThanHeld_83 : decode cX3_isBetterThanHeld 83 = .ok (.goto 4, 3) := by decide +kernel
theorem dX3_isBetterThanHeld_86 : decode cX3_isBetterThanHeld 86 = .ok (.iconst 0, 1) := by decide +kernel
theorem dX3_isBetterThanHeld_87 : decode cX3_isBetterThanHeld 87 = .ok (.ireturn, 1) := by decide +kernel
theorem dX3_isBetterThanHeld_88 : decode cX3_isBetterThanHeld 88 = .ok (.aload_n 0, 1) := by decide +kernel
theorem dX3_isBetterThanHeld_89 : decode cX3_isBetterThanHeld 89 = .ok (.getfield 55, 3) := by decide +kernel
theorem dX3_isBetterThanHeld_92 : decode cX3_isBetterThanHeld 92 = .ok (.getfield 63, 3) := by decide +kernel
theorem dX3_isBetterThanHeld_95 : decode cX3_isBetterThanHeld 95 = .ok (.iload_n 2, 1) := by decide +kernel
theorem dX3_isBetterThanHeld_96 : decode cX3_isBetterThanHeld 96 = .ok (.iaload, 1) := by decide +kernel
theorem dX3_isBetterThanHeld_97 : decode cX3_isBetterThanHeld 97 = .ok (.istore 4, 2) := by decide +kernel
theorem dX3_isBetterThanHeld_99 : decode cX3_isBetterThanHeld 99 = .ok (.aload_n 0, 1) := by decide +kernel
theorem dX3_isBetterThanHeld_100 : decode cX3_isBetterThanHeld 100 = .ok (.getfield 55, 3) := by decide +kernel
theorem dX3_isBetterThanHeld_103 : decode cX3_isBetterThanHeld 103 = .ok (.getfield 63, 3) := by decide +kernel
theorem dX3_isBetterThanHeld_106 : decode cX3_isBetterThanHeld 106 = .ok (.iload_n 1, 1) := by decide +kernel
theorem dX3_isBetterThanHeld_107 : decode cX3_isBetterThanHeld 107 = .ok (.aload_n 0, 1) := by decide +kernel
theorem dX3_isBetterThanHeld_108 : decode cX3_isBetterThanHeld 108 = .ok (.getfield 21, 3) := by decide +kernel
theorem dX3_isBetterThanHeld_111 : decode cX3_isBetterThanHeld 111 = .ok (.iload_n 1, 1) := by decide +kernel
theorem dX3_isBetterThanHeld_112 : decode cX3_isBetterThanHeld 112 = .ok (.iaload, 1) := by decide +kernel
theorem dX3_isBetterThanHeld_113 : decode cX3_isBetterThanHeld 113 = .ok (.invokestatic 110, 3) := by decide +kernel
theorem dX3_isBetterThanHeld_116 : decode cX3_isBetterThanHeld 116 = .ok (.iaload, 1) := by decide +kernel
theorem dX3_isBetterThanHeld_117 : decode cX3_isBetterThanHeld 117 = .ok (.istore 5, 2) := by decide +kernel
theorem dX3_isBetterThanHeld_119 : decode cX3_isBetterThanHeld 119 = .ok (.iload 4, 2) := by decide +kernel
theorem dX3_isBetterThanHeld_121 : decode cX3_isBetterThanHeld 121 = .ok (.iconst 5, 1) := by decide +kernel
theorem dX3_isBetterThanHeld_122 : decode cX3_isBetterThanHeld 122 = .ok (.idiv, 1) := by decide +kernel
theorem dX3_isBetterThanHeld_123 : decode cX3_isBetterThanHeld 123 = .ok (.iload 5, 2) := by decide +kernel
theorem dX3_isBetterThanHeld_125 : decode cX3_isBetterThanHeld 125 = .ok (.iconst 5, 1) := by decide +kernel
theorem dX3_isBetterThanHeld_126 : decode cX3_isBetterThanHeld 126 = .ok (.idiv, 1) := by decide +kernel
theorem dX3_isBetterThanHeld_127 : decode cX3_isBetterThanHeld 127 = .ok (.if_icmp .eq 19, 3) := by decide +kernel
theorem dX3_isBetterThanHeld_130 : decode cX3_isBetterThanHeld 130 = .ok (.aload_n 0, 1) := by decide +kernel
theorem dX3_isBetterThanHeld_131 : decode cX3_isBetterThanHeld 131 = .ok (.getfield 55, 3) := by decide +kernel
theorem dX3_isBetterThanHeld_134 : decode cX3_isBetterThanHeld 134 = .ok (.iload 4, 2) := by decide +kernel
theorem dX3_isBetterThanHeld_136 : decode cX3_isBetterThanHeld 136 = .ok (.iconst 5, 1) := by decide +kernel
theorem dX3_isBetterThanHeld_137 : decode cX3_isBetterThanHeld 137 = .ok (.idiv, 1) := by decide +kernel
theorem dX3_isBetterThanHeld_138 : decode cX3_isBetterThanHeld 138 = .ok (.iload 5, 2) := by decide +kernel
theorem dX3_isBetterThanHeld_140 : decode cX3_isBetterThanHeld 140 = .ok (.iconst 5, 1) := by decide +kernel
theorem dX3_isBetterThanHeld_141 : decode cX3_isBetterThanHeld 141 = .ok (.idiv, 1) := by decide +kernel
theorem dX3_isBetterThanHeld_142 : decode cX3_isBetterThanHeld 142 = .ok (.invokevirtual 117, 3) := by decide +kernel
theorem dX3_isBetterThanHeld_145 : decode cX3_isBetterThanHeld 145 = .ok (.ireturn, 1) := by decide +kernel
theorem dX3_isBetterThanHeld_146 : decode cX3_isBetterThanHeld 146 = .ok (.iload 4, 2) := by decide +kernel
theorem dX3_isBetterThanHeld_148 : decode cX3_isBetterThanHeld 148 = .ok (.iload 5, 2) := by decide +kernel
theorem dX3_isBetterThanHeld_150 : decode cX3_isBetterThanHeld 150 = .ok (.if_icmp .ge 7, 3) := by decide +kernel
theorem dX3_isBetterThanHeld_153 : decode cX3_isBetterThanHeld 153 = .ok (.iconst 1, 1) := by decide +kernel
theorem dX3_isBetterThanHeld_154 : decode cX3_isBetterThanHeld 154 = .ok (.goto 4, 3) := by decide +kernel
theorem dX3_isBetterThanHeld_157 : decode cX3_isBetterThanHeld 157 = .ok (.iconst 0, 1) := by decide +kernel
theorem dX3_isBetterThanHeld_158 : decode cX3_isBetterThanHeld 158 = .ok (.ireturn, 1) := by decide +kernel
set_option maxRecDepth 20000 in
theorem ggX3_turn_X3_roleOf : GoodIn wsX3_turn wsX3_roleOf := goodIn_r _ [10, 2, 3, 11, 12, 13, 14, 15, 9, 16, 17, 18, 19, 20, 21, 22, 23, 24, 25, 26, 27, 28, 29, 30, 36, 37, 38, 39, 40, 41, 42, 43, 44, 45, 46, 47, 48, 49, 50, 51, 52, 53, 54, 55, 56, 57, 58, 59] (by decide +kernel) (by decide +kernel)
set_option maxRecDepth 20000 in
theorem gX3_turn_X3_roleOf : GoodIn wsX3_turn (wsV RX3 125 RX3 yX3_roleOf wsX3_roleOf) := goodIn_app (goodIn_of _ (by decide +kernel)) ggX3_turn_X3_roleOf
set_option maxRecDepth 20000 in
theorem ggX3_turn_X3_turnTo : GoodIn wsX3_turn wsX3_turnTo := goodIn_r _ [34, 5, 35, 36, 37, 38, 39, 40, 41, 42, 43, 44, 45, 46, 47, 48, 49, 50, 51] (by decide +kernel) (by decide +kernel)
set_option maxRecDepth 20000 in
theorem gX3_turn_X3_turnTo : GoodIn wsX3_turn (wsV RX3 129 RX3 yX3_turnTo wsX3_turnTo) := goodIn_app (goodIn_of _ (by decide +kernel)) ggX3_turn_X3_turnTo
theorem dX3_turn_0 : decode cX3_turn 0 = .ok (.aload_n 0, 1) := by decide +kernel
theorem dX3_turn_1 : decode cX3_turn 1 = .ok (.getfield 31, 3) := by decide +kernel
theorem dX3_turn_4 : decode cX3_turn 4 = .ok (.iload_n 1, 1) := by decide +kernel
theorem dX3_turn_5 : decode cX3_turn 5 = .ok (.aload_n 0, 1) := by decide +kernel
theorem dX3_turn_6 : decode cX3_turn 6 = .ok (.iload_n 1, 1) := by decide +kernel
theorem dX3_turn_7 : decode cX3_turn 7 = .ok (.invokevirtual 125, 3) := by decide +kernel
theorem dX3_turn_10 : decode cX3_turn 10 = .ok (.iastore, 1) := by decide +kernel
theorem dX3_turn_11 : decode cX3_turn 11 = .ok (.aload_n 0, 1) := by decide +kernel
theorem dX3_turn_12 : decode cX3_turn 12 = .ok (.getfield 55, 3) := by decide +kernel
theorem dX3_turn_15 : decode cX3_turn 15 = .ok (.getfield 63, 3) := by decide +kernel
theorem dX3_turn_18 : decode cX3_turn 18 = .ok (.iload_n 1, 1) := by decide +kernel
theorem dX3_turn_19 : decode cX3_turn 19 = .ok (.iaload, 1) := by decide +kernel
theorem dX3_turn_20 : decode cX3_turn 20 = .ok (.iconst (-1), 1) := by decide +kernel
theorem dX3_turn_21 : decode cX3_turn 21 = .ok (.if_icmp .ne 4, 3) := by decide +kernel
theorem dX3_turn_24 : decode cX3_turn 24 = .ok (.return_, 1) := by decide +kernel
theorem dX3_turn_25 : decode cX3_turn 25 = .ok (.aload_n 0, 1) := by decide +kernel
theorem dX3_turn_26 : decode cX3_turn 26 = .ok (.getfield 31, 3) := by decide +kernel
theorem dX3_turn_29 : decode cX3_turn 29 = .ok (.iload_n 1, 1) := by decide +kernel
theorem dX3_turn_30 : decode cX3_turn 30 = .ok (.iaload, 1) := by decide +kernel
theorem dX3_turn_31 : decode cX3_turn 31 = .ok (.iconst 1, 1) := by decide +kernel
theorem dX3_turn_32 : decode cX3_turn 32 = .ok (.if_icmp .eq 29, 3) := by decide +kernel
theorem dX3_turn_35 : decode cX3_turn 35 = .ok (.aload_n 0, 1) := by decide +kernel
theorem dX3_turn_36 : decode cX3_turn 36 = .ok (.getfield 31, 3) := by decide +kernel
theorem dX3_turn_39 : decode cX3_turn 39 = .ok (.iload_n 1, 1) := by decide +kernel
theorem dX3_turn_40 : decode cX3_turn 40 = .ok (.iaload, 1) := by decide +kernel
theorem dX3_turn_41 : decode cX3_turn 41 = .ok (.iconst 2, 1) := by decide +kernel
theorem dX3_turn_42 : decode cX3_turn 42 = .ok (.if_icmp .eq 19, 3) := by decide +kernel
theorem dX3_turn_45 : decode cX3_turn 45 = .ok (.aload_n 0, 1) := by decide +kernel
theorem dX3_turn_46 : decode cX3_turn 46 = .ok (.getfield 34, 3) := by decide +kernel
theorem dX3_turn_49 : decode cX3_turn 49 = .ok (.iload_n 1, 1) := by decide +kernel
theorem dX3_turn_50 : decode cX3_turn 50 = .ok (.iconst 0, 1) := by decide +kernel
theorem dX3_turn_51 : decode cX3_turn 51 = .ok (.iastore, 1) := by decide +kernel
theorem dX3_turn_52 : decode cX3_turn 52 = .ok (.aload_n 0, 1) := by decide +kernel
theorem dX3_turn_53 : decode cX3_turn 53 = .ok (.iload_n 1, 1) := by decide +kernel
theorem dX3_turn_54 : decode cX3_turn 54 = .ok (.iconst 0, 1) := by decide +kernel
theorem dX3_turn_55 : decode cX3_turn 55 = .ok (.invokevirtual 129, 3) := by decide +kernel
theorem dX3_turn_58 : decode cX3_turn 58 = .ok (.goto 45, 3) := by decide +kernel
theorem dX3_turn_61 : decode cX3_turn 61 = .ok (.aload_n 0, 1) := by decide +kernel
theorem dX3_turn_62 : decode cX3_turn 62 = .ok (.getfield 27, 3) := by decide +kernel
theorem dX3_turn_65 : decode cX3_turn 65 = .ok (.iload_n 1, 1) := by decide +kernel
theorem dX3_turn_66 : decode cX3_turn 66 = .ok (.baload, 1) := by decide +kernel
theorem dX3_turn_67 : decode cX3_turn 67 = .ok (.ifCond .ne 36, 3) := by decide +kernel
theorem dX3_turn_70 : decode cX3_turn 70 = .ok (.aload_n 0, 1) := by decide +kernel
theorem dX3_turn_71 : decode cX3_turn 71 = .ok (.getfield 34, 3) := by decide +kernel
theorem dX3_turn_74 : decode cX3_turn 74 = .ok (.iload_n 1, 1) := by decide +kernel
theorem dX3_turn_75 : decode cX3_turn 75 = .ok (.dup2, 1) := by decide +kernel
theorem dX3_turn_76 : decode cX3_turn 76 = .ok (.iaload, 1) := by decide +kernel
theorem dX3_turn_77 : decode cX3_turn 77 = .ok (.iconst 1, 1) := by decide +kernel
theorem dX3_turn_78 : decode cX3_turn 78 = .ok (.iadd, 1) := by decide +kernel
theorem dX3_turn_79 : decode cX3_turn 79 = .ok (.iastore, 1) := by decide +kernel
theorem dX3_turn_80 : decode cX3_turn 80 = .ok (.aload_n 0, 1) := by decide +kernel
theorem dX3_turn_81 : decode cX3_turn 81 = .ok (.getfield 34, 3) := by decide +kernel
theorem dX3_turn_84 : decode cX3_turn 84 = .ok (.iload_n 1, 1) := by decide +kernel
theorem dX3_turn_85 : decode cX3_turn 85 = .ok (.iaload, 1) := by decide +kernel
theorem dX3_turn_86 : decode cX3_turn 86 = .ok (.iconst 2, 1) := by decide +kernel
theorem dX3_turn_87 : decode cX3_turn 87 = .ok (.if_icmp .le 16, 3) := by decide +kernel
theorem dX3_turn_90 : decode cX3_turn 90 = .ok (.aload_n 0, 1) := by decide +kernel
theorem dX3_turn_91 : decode cX3_turn 91 = .ok (.getfield 34, 3) := by decide +kernel
theorem dX3_turn_94 : decode cX3_turn 94 = .ok (.iload_n 1, 1) := by decide +kernel
theorem dX3_turn_95 : decode cX3_turn 95 = .ok (.iconst 0, 1) := by decide +kernel
theorem dX3_turn_96 : decode cX3_turn 96 = .ok (.iastore, 1) := by decide +kernel
theorem dX3_turn_97 : decode cX3_turn 97 = .ok (.aload_n 0, 1) := by decide +kernel
theorem dX3_turn_98 : decode cX3_turn 98 = .ok (.iload_n 1, 1) := by decide +kernel
theorem dX3_turn_99 : decode cX3_turn 99 = .ok (.iconst 1, 1) := by decide +kernel
theorem dX3_turn_100 : decode cX3_turn 100 = .ok (.invokevirtual 129, 3) := by decide +kernel
theorem dX3_turn_103 : decode cX3_turn 103 = .ok (.return_, 1) := by decide +kernel
theorem dX3_turnTo_0 : decode cX3_turnTo 0 = .ok (.aload_n 0, 1) := by decide +kernel
theorem dX3_turnTo_1 : decode cX3_turnTo 1 = .ok (.getfield 27, 3) := by decide +kernel
theorem dX3_turnTo_4 : decode cX3_turnTo 4 = .ok (.iload_n 1, 1) := by decide +kernel
theorem dX3_turnTo_5 : decode cX3_turnTo 5 = .ok (.baload, 1) := by decide +kernel
theorem dX3_turnTo_6 : decode cX3_turnTo 6 = .ok (.iload_n 2, 1) := by decide +kernel
theorem dX3_turnTo_7 : decode cX3_turnTo 7 = .ok (.if_icmp .eq 19, 3) := by decide +kernel
theorem dX3_turnTo_10 : decode cX3_turnTo 10 = .ok (.aload_n 0, 1) := by decide +kernel
theorem dX3_turnTo_11 : decode cX3_turnTo 11 = .ok (.getfield 27, 3) := by decide +kernel
theorem dX3_turnTo_14 : decode cX3_turnTo 14 = .ok (.iload_n 1, 1) := by decide +kernel
theorem dX3_turnTo_15 : decode cX3_turnTo 15 = .ok (.iload_n 2, 1) := by decide +kernel
theorem dX3_turnTo_16 : decode cX3_turnTo 16 = .ok (.bastore, 1) := by decide +kernel
theorem dX3_turnTo_17 : decode cX3_turnTo 17 = .ok (.aload_n 0, 1) := by decide +kernel
theorem dX3_turnTo_18 : decode cX3_turnTo 18 = .ok (.getfield 49, 3) := by decide +kernel
theorem dX3_turnTo_21 : decode cX3_turnTo 21 = .ok (.iload_n 1, 1) := by decide +kernel
theorem dX3_turnTo_22 : decode cX3_turnTo 22 = .ok (.iconst 5, 1) := by decide +kernel
theorem dX3_turnTo_23 : decode cX3_turnTo 23 = .ok (.idiv, 1) := by decide +kernel
theorem dX3_turnTo_24 : decode cX3_turnTo 24 = .ok (.iconst 1, 1) := by decide +kernel
theorem dX3_turnTo_25 : decode cX3_turnTo 25 = .ok (.bastore, 1) := by decide +kernel
theorem dX3_turnTo_26 : decode cX3_turnTo 26 = .ok (.return_, 1) := by decide +kernel
set_option maxRecDepth 20000 in
theorem ggX3_roleOf_X3_isShut : GoodIn wsX3_roleOf wsX3_isShut := goodIn_r _ [9, 10, 24, 25, 26, 27, 28, 29, 30, 31, 32, 33, 34, 35, 36, 37, 38, 39] (by decide +kernel) (by decide +kernel)
set_option maxRecDepth 20000 in
theorem gX3_roleOf_X3_isShut : GoodIn wsX3_roleOf (wsV RX3 68 RX3 yX3_isShut wsX3_isShut) := goodIn_app (goodIn_of _ (by decide +kernel)) ggX3_roleOf_X3_isShut
set_option maxRecDepth 20000 in
theorem ggX3_roleOf_X3_isHeldBetter : GoodIn wsX3_roleOf wsX3_isHeldBetter := goodIn_r _ [14, 15, 4, 1, 16, 17, 2, 18, 19, 20, 21, 22, 23, 24, 25, 26, 27, 28, 29, 30, 31, 32, 33, 34, 35, 36, 37, 38, 39, 40, 41, 42, 43, 44, 45, 46, 47] (by decide +kernel) (by decide +kernel)
set_option maxRecDepth 20000 in
theorem gX3_roleOf_X3_isHeldBetter : GoodIn wsX3_roleOf (wsV RX3 133 RX3 yX3_isHeldBetter wsX3_isHeldBetter) := goodIn_app (goodIn_of _ (by decide +kernel)) ggX3_roleOf_X3_isHeldBetter
theorem dX3_roleOf_0 : decode cX3_roleOf 0 = .ok (.aload_n 0, 1) := by decide +kernel
theorem dX3_roleOf_1 : decode cX3_roleOf 1 = .ok (.getfield 55, 3) := by decide +kernel
theorem dX3_roleOf_4 : decode cX3_roleOf 4 = .ok (.getfield 63, 3) := by decide +kernel
theorem dX3_roleOf_7 : decode cX3_roleOf 7 = .ok (.iload_n 1, 1) := by decide +kernel
theorem dX3_roleOf_8 : decode cX3_roleOf 8 = .ok (.iaload, 1) := by decide +kernel
theorem dX3_roleOf_9 : decode cX3_roleOf 9 = .ok (.iconst (-1), 1) := by decide +kernel
theorem dX3_roleOf_10 : decode cX3_roleOf 10 = .ok (.if_icmp .eq 11, 3) := by decide +kernel
theorem dX3_roleOf_13 : decode cX3_roleOf 13 = .ok (.aload_n 0, 1) := by decide +kernel
theorem dX3_roleOf_14 : decode cX3_roleOf 14 = .ok (.iload_n 1, 1) := by decide +kernel
theorem dX3_roleOf_15 : decode cX3_roleOf 15 = .ok (.invokevirtual 68, 3) := by decide +kernel
theorem dX3_roleOf_18 : decode cX3_roleOf 18 = .ok (.ifCond .eq 5, 3) := by decide +kernel
theorem dX3_roleOf_21 : decode cX3_roleOf 21 = .ok (.iconst 0, 1) := by decide +kernel
theorem dX3_roleOf_22 : decode cX3_roleOf 22 = .ok (.ireturn, 1) := by decide +kernel
theorem dX3_roleOf_23 : decode cX3_roleOf 23 = .ok (.aload_n 0, 1) := by decide +kernel
theorem dX3_roleOf_24 : decode cX3_roleOf 24 = .ok (.getfield 21, 3) := by decide +kernel
theorem dX3_roleOf_27 : decode cX3_roleOf 27 = .ok (.iload_n 1, 1) := by decide +kernel
theorem dX3_roleOf_28 : decode cX3_roleOf 28 = .ok (.iconst 5, 1) := by decide +kernel
theorem dX3_roleOf_29 : decode cX3_roleOf 29 = .ok (.idiv, 1) := by decide +kernel
theorem dX3_roleOf_30 : decode cX3_roleOf 30 = .ok (.iaload, 1) := by decide +kernel
theorem dX3_roleOf_31 : decode cX3_roleOf 31 = .ok (.iload_n 1, 1) := by decide +kernel
theorem dX3_roleOf_32 : decode cX3_roleOf 32 = .ok (.iconst 5, 1) := by decide +kernel
theorem dX3_roleOf_33 : decode cX3_roleOf 33 = .ok (.irem, 1) := by decide +kernel
theorem dX3_roleOf_34 : decode cX3_roleOf 34 = .ok (.if_icmp .ne 5, 3) := by decide +kernel
theorem dX3_roleOf_37 : decode cX3_roleOf 37 = .ok (.iconst 1, 1) := by decide +kernel
theorem dX3_roleOf_38 : decode cX3_roleOf 38 = .ok (.ireturn, 1) := by decide +kernel
theorem dX3_roleOf_39 : decode cX3_roleOf 39 = .ok (.aload_n 0, 1) := by decide +kernel
theorem dX3_roleOf_40 : decode cX3_roleOf 40 = .ok (.getfield 37, 3) := by decide +kernel
theorem dX3_roleOf_43 : decode cX3_roleOf 43 = .ok (.iload_n 1, 1) := by decide +kernel
theorem dX3_roleOf_44 : decode cX3_roleOf 44 = .ok (.iaload, 1) := by decide +kernel
theorem dX3_roleOf_45 : decode cX3_roleOf 45 = .ok (.iconst (-1), 1) := by decide +kernel
theorem dX3_roleOf_46 : decode cX3_roleOf 46 = .ok (.if_icmp .eq 11, 3) := by decide +kernel
theorem dX3_roleOf_49 : decode cX3_roleOf 49 = .ok (.aload_n 0, 1) := by decide +kernel
theorem dX3_roleOf_50 : decode cX3_roleOf 50 = .ok (.iload_n 1, 1) := by decide +kernel
theorem dX3_roleOf_51 : decode cX3_roleOf 51 = .ok (.invokevirtual 133, 3) := by decide +kernel
theorem dX3_roleOf_54 : decode cX3_roleOf 54 = .ok (.ifCond .eq 7, 3) := by decide +kernel
theorem dX3_roleOf_57 : decode cX3_roleOf 57 = .ok (.iconst 2, 1) := by decide +kernel
theorem dX3_roleOf_58 : decode cX3_roleOf 58 = .ok (.goto 4, 3) := by decide +kernel
theorem dX3_roleOf_61 : decode cX3_roleOf 61 = .ok (.iconst 3, 1) := by decide +kernel
theorem dX3_roleOf_62 : decode cX3_roleOf 62 = .ok (.ireturn, 1) := by decide +kernel
set_option maxRecDepth 20000 in
theorem ggX3_isHeldBetter_X4_isBetterName : GoodIn wsX3_isHeldBetter wsX4_isBetterName := goodIn_r _ [11, 12, 29, 30, 31, 32, 33, 34, 35, 36] (by decide +kernel) (by decide +kernel)
set_option maxRecDepth 20000 in
theorem gX3_isHeldBetter_X4_isBetterName : GoodIn wsX3_isHeldBetter (wsV RX3 117 RX4 yX4_isBetterName wsX4_isBetterName) := goodIn_app (goodIn_of _ (by decide +kernel)) ggX3_isHeldBetter_X4_isBetterName
theorem dX3_isHeldBetter_0 : decode cX3_isHeldBetter 0 = .ok (.iload_n 1, 1) := by decide +kernel
theorem dX3_isHeldBetter_1 : decode cX3_isHeldBetter 1 = .ok (.iconst 5, 1) := by decide +kernel
theorem dX3_isHeldBetter_2 : decode cX3_isHeldBetter 2 = .ok (.idiv, 1) := by decide +kernel
theorem dX3_isHeldBetter_3 : decode cX3_isHeldBetter 3 = .ok (.istore_n 2, 1) := by decide +kernel
theorem dX3_isHeldBetter_4 : decode cX3_isHeldBetter 4 = .ok (.aload_n 0, 1) := by decide +kernel
theorem dX3_isHeldBetter_5 : decode cX3_isHeldBetter 5 = .ok (.getfield 9, 3) := by decide +kernel
theorem dX3_isHeldBetter_8 : decode cX3_isHeldBetter 8 = .ok (.iload_n 2, 1) := by decide +kernel
theorem dX3_isHeldBetter_9 : decode cX3_isHeldBetter 9 = .ok (.iaload, 1) := by decide +kernel
theorem dX3_isHeldBetter_10 : decode cX3_isHeldBetter 10 = .ok (.aload_n 0, 1) := by decide +kernel
theorem dX3_isHeldBetter_11 : decode cX3_isHeldBetter 11 = .ok (.getfield 37, 3) := by decide +kernel
theorem dX3_isHeldBetter_14 : decode cX3_isHeldBetter 14 = .ok (.iload_n 1, 1) := by decide +kernel
theorem dX3_isHeldBetter_15 : decode cX3_isHeldBetter 15 = .ok (.iaload, 1) := by decide +kernel
theorem dX3_isHeldBetter_16 : decode cX3_isHeldBetter 16 = .ok (.if_icmp .eq 23, 3) := by decide +kernel
theorem dX3_isHeldBetter_19 : decode cX3_isHeldBetter 19 = .ok (.aload_n 0, 1) := by decide +kernel
theorem dX3_isHeldBetter_20 : decode cX3_isHeldBetter 20 = .ok (.getfield 55, 3) := by decide +kernel
theorem dX3_isHeldBetter_23 : decode cX3_isHeldBetter 23 = .ok (.aload_n 0, 1) := by decide +kernel
theorem dX3_isHeldBetter_24 : decode cX3_isHeldBetter 24 = .ok (.getfield 9, 3) := by decide +kernel
theorem dX3_isHeldBetter_27 : decode cX3_isHeldBetter 27 = .ok (.iload_n 2, 1) := by decide +kernel
theorem dX3_isHeldBetter_28 : decode cX3_isHeldBetter 28 = .ok (.iaload, 1) := by decide +kernel
theorem dX3_isHeldBetter_29 : decode cX3_isHeldBetter 29 = .ok (.aload_n 0, 1) := by decide +kernel
theorem dX3_isHeldBetter_30 : decode cX3_isHeldBetter 30 = .ok (.getfield 37, 3) := by decide +kernel
theorem dX3_isHeldBetter_33 : decode cX3_isHeldBetter 33 = .ok (.iload_n 1, 1) := by decide +kernel
theorem dX3_isHeldBetter_34 : decode cX3_isHeldBetter 34 = .ok (.iaload, 1) := by decide +kernel
theorem dX3_isHeldBetter_35 : decode cX3_isHeldBetter 35 = .ok (.invokevirtual 117, 3) := by decide +kernel
theorem dX3_isHeldBetter_38 : decode cX3_isHeldBetter 38 = .ok (.ireturn, 1) := by decide +kernel
theorem dX3_isHeldBetter_39 : decode cX3_isHeldBetter 39 = .ok (.aload_n 0, 1) := by decide +kernel
theorem dX3_isHeldBetter_40 : decode cX3_isHeldBetter 40 = .ok (.getfield 15, 3) := by decide +kernel
theorem dX3_isHeldBetter_43 : decode cX3_isHeldBetter 43 = .ok (.iload_n 2, 1) := by decide +kernel
theorem dX3_isHeldBetter_44 : decode cX3_isHeldBetter 44 = .ok (.iaload, 1) := by decide +kernel
theorem dX3_isHeldBetter_45 : decode cX3_isHeldBetter 45 = .ok (.aload_n 0, 1) := by decide +kernel
theorem dX3_isHeldBetter_46 : decode cX3_isHeldBetter 46 = .ok (.getfield 40, 3) := by decide +kernel
theorem dX3_isHeldBetter_49 : decode cX3_isHeldBetter 49 = .ok (.iload_n 1, 1) := by decide +kernel
theorem dX3_isHeldBetter_50 : decode cX3_isHeldBetter 50 = .ok (.iaload, 1) := by decide +kernel
theorem dX3_isHeldBetter_51 : decode cX3_isHeldBetter 51 = .ok (.if_icmp .eq 24, 3) := by decide +kernel
theorem dX3_isHeldBetter_54 : decode cX3_isHeldBetter 54 = .ok (.aload_n 0, 1) := by decide +kernel
theorem dX3_isHeldBetter_55 : decode cX3_isHeldBetter 55 = .ok (.getfield 15, 3) := by decide +kernel
theorem dX3_isHeldBetter_58 : decode cX3_isHeldBetter 58 = .ok (.iload_n 2, 1) := by decide +kernel
theorem dX3_isHeldBetter_59 : decode cX3_isHeldBetter 59 = .ok (.iaload, 1) := by decide +kernel
theorem dX3_isHeldBetter_60 : decode cX3_isHeldBetter 60 = .ok (.aload_n 0, 1) := by decide +kernel
theorem dX3_isHeldBetter_61 : decode cX3_isHeldBetter 61 = .ok (.getfield 40, 3) := by decide +kernel
theorem dX3_isHeldBetter_64 : decode cX3_isHeldBetter 64 = .ok (.iload_n 1, 1) := by decide +kernel
theorem dX3_isHeldBetter_65 : decode cX3_isHeldBetter 65 = .ok (.iaload, 1) := by decide +kernel
theorem dX3_isHeldBetter_66 : decode cX3_isHeldBetter 66 = .ok (.if_icmp .ge 7, 3) := by decide +kernel
theorem dX3_isHeldBetter_69 : decode cX3_isHeldBetter 69 = .ok (.iconst 1, 1) := by decide +kernel
theorem dX3_isHeldBetter_70 : decode cX3_isHeldBetter 70 = .ok (.goto 4, 3) := by decide +kernel
theorem dX3_isHeldBetter_73 : decode cX3_isHeldBetter 73 = .ok (.iconst 0, 1) := by decide +kernel
theorem dX3_isHeldBetter_74 : decode cX3_isHeldBetter 74 = .ok (.ireturn, 1) := by decide +kernel
theorem dX3_isHeldBetter_75 : decode cX3_isHeldBetter 75 = .ok (.aload_n 0, 1) := by decide +kernel
theorem dX3_isHeldBetter_76 : decode cX3_isHeldBetter 76 = .ok (.getfield 55, 3) := by decide +kernel
theorem dX3_isHeldBetter_79 : decode cX3_isHeldBetter 79 = .ok (.iload_n 2, 1) := by decide +kernel
theorem dX3_isHeldBetter_80 : decode cX3_isHeldBetter 80 = .ok (.aload_n 0, 1) := by decide +kernel
theorem dX3_isHeldBetter_81 : decode cX3_isHeldBetter 81 = .ok (.getfield 55, 3) := by decide +kernel
theorem dX3_isHeldBetter_84 : decode cX3_isHeldBetter 84 = .ok (.getfield 63, 3) := by decide +kernel
theorem dX3_isHeldBetter_87 : decode cX3_isHeldBetter 87 = .ok (.iload_n 1, 1) := by decide +kernel
theorem dX3_isHeldBetter_88 : decode cX3_isHeldBetter 88 = .ok (.iaload, 1) := by decide +kernel
theorem dX3_isHeldBetter_89 : decode cX3_isHeldBetter 89 = .ok (.iconst 5, 1) := by decide +kernel
theorem dX3_isHeldBetter_90 : decode cX3_isHeldBetter 90 = .ok (.idiv, 1) := by decide +kernel
theorem dX3_isHeldBetter_91 : decode cX3_isHeldBetter 91 = .ok (.invokevirtual 117, 3) := by decide +kernel
theorem dX3_isHeldBetter_94 : decode cX3_isHeldBetter 94 = .ok (.ireturn, 1) := by decide +kernel
set_option maxRecDepth 20000 in
theorem ggX3_spreadStale_X3_isJoined : GoodIn wsX3_spreadStale wsX3_isJoined := goodIn_r _ [8, 2, 3, 9, 10, 11, 7, 12, 13, 14, 15, 16, 17, 18, 19, 20, 21, 22, 23, 24, 25, 26, 27, 28, 29, 30, 31, 32, 33, 34, 35, 36, 37] (by decide +kernel) (by decide +kernel)
set_option maxRecDepth 20000 in
theorem gX3_spreadStale_X3_isJoined : GoodIn wsX3_spreadStale (wsV RX3 100 RX3 yX3_isJoined wsX3_isJoined) := goodIn_app (goodIn_of _ (by decide +kernel)) ggX3_spreadStale_X3_isJoined
theorem dX3_spreadStale_0 : decode cX3_spreadStale 0 = .ok (.iconst 0, 1) := by decide +kernel
theorem dX3_spreadStale_1 : decode cX3_spreadStale 1 = .ok (.istore_n 1, 1) := by decide +kernel
theorem dX3_spreadStale_2 : decode cX3_spreadStale 2 = .ok (.iload_n 1, 1) := by decide +kernel
theorem dX3_spreadStale_3 : decode cX3_spreadStale 3 = .ok (.bipush 6, 2) := by decide +kernel
theorem dX3_spreadStale_5 : decode cX3_spreadStale 5 = .ok (.if_icmp .ge 59, 3) := by decide +kernel
theorem dX3_spreadStale_8 : decode cX3_spreadStale 8 = .ok (.iconst 0, 1) := by decide +kernel
theorem dX3_spreadStale_9 : decode cX3_spreadStale 9 = .ok (.istore_n 2, 1) := by decide +kernel
theorem dX3_spreadStale_10 : decode cX3_spreadStale 10 = .ok (.iload_n 2, 1) := by decide +kernel
theorem dX3_spreadStale_11 : decode cX3_spreadStale 11 = .ok (.bipush 30, 2) := by decide +kernel
theorem dX3_spreadStale_13 : decode cX3_spreadStale 13 = .ok (.if_icmp .ge 45, 3) := by decide +kernel
theorem dX3_spreadStale_16 : decode cX3_spreadStale 16 = .ok (.aload_n 0, 1) := by decide +kernel
theorem dX3_spreadStale_17 : decode cX3_spreadStale 17 = .ok (.getfield 49, 3) := by decide +kernel
theorem dX3_spreadStale_20 : decode cX3_spreadStale 20 = .ok (.iload_n 2, 1) := by decide +kernel
theorem dX3_spreadStale_21 : decode cX3_spreadStale 21 = .ok (.iconst 5, 1) := by decide +kernel
theorem dX3_spreadStale_22 : decode cX3_spreadStale 22 = .ok (.idiv, 1) := by decide +kernel
theorem dX3_spreadStale_23 : decode cX3_spreadStale 23 = .ok (.baload, 1) := by decide +kernel
theorem dX3_spreadStale_24 : decode cX3_spreadStale 24 = .ok (.ifCond .eq 28, 3) := by decide +kernel
theorem dX3_spreadStale_27 : decode cX3_spreadStale 27 = .ok (.aload_n 0, 1) := by decide +kernel
theorem dX3_spreadStale_28 : decode cX3_spreadStale 28 = .ok (.iload_n 2, 1) := by decide +kernel
theorem dX3_spreadStale_29 : decode cX3_spreadStale 29 = .ok (.invokevirtual 100, 3) := by decide +kernel
theorem dX3_spreadStale_32 : decode cX3_spreadStale 32 = .ok (.ifCond .eq 20, 3) := by decide +kernel
theorem dX3_spreadStale_35 : decode cX3_spreadStale 35 = .ok (.aload_n 0, 1) := by decide +kernel
theorem dX3_spreadStale_36 : decode cX3_spreadStale 36 = .ok (.getfield 49, 3) := by decide +kernel
theorem dX3_spreadStale_39 : decode cX3_spreadStale 39 = .ok (.aload_n 0, 1) := by decide +kernel
theorem dX3_spreadStale_40 : decode cX3_spreadStale 40 = .ok (.getfield 55, 3) := by decide +kernel
theorem dX3_spreadStale_43 : decode cX3_spreadStale 43 = .ok (.getfield 63, 3) := by decide +kernel
theorem dX3_spreadStale_46 : decode cX3_spreadStale 46 = .ok (.iload_n 2, 1) := by decide +kernel
theorem dX3_spreadStale_47 : decode cX3_spreadStale 47 = .ok (.iaload, 1) := by decide +kernel
theorem dX3_spreadStale_48 : decode cX3_spreadStale 48 = .ok (.iconst 5, 1) := by decide +kernel
theorem dX3_spreadStale_49 : decode cX3_spreadStale 49 = .ok (.idiv, 1) := by decide +kernel
theorem dX3_spreadStale_50 : decode cX3_spreadStale 50 = .ok (.iconst 1, 1) := by decide +kernel
theorem dX3_spreadStale_51 : decode cX3_spreadStale 51 = .ok (.bastore, 1) := by decide +kernel
theorem dX3_spreadStale_52 : decode cX3_spreadStale 52 = .ok (.iinc 2 1, 3) := by decide +kernel
theorem dX3_spreadStale_55 : decode cX3_spreadStale 55 = .ok (.goto (-45), 3) := by decide +kernel
theorem dX3_spreadStale_58 : decode cX3_spreadStale 58 = .ok (.iinc 1 1, 3) := by decide +kernel
theorem dX3_spreadStale_61 : decode cX3_spreadStale 61 = .ok (.goto (-59), 3) := by decide +kernel
theorem dX3_spreadStale_64 : decode cX3_spreadStale 64 = .ok (.return_, 1) := by decide +kernel
set_option maxRecDepth 20000 in
theorem ggX3_endStorms_X3_endShut : GoodIn wsX3_endStorms wsX3_endShut := goodIn_r _ [7, 1, 8, 9, 10, 6, 11, 12, 13, 14, 15, 16, 17, 18, 19, 20, 21, 22, 23, 24, 25, 26, 27, 28, 29, 30, 31, 32, 33, 34, 35, 36, 37, 38, 39, 40, 41, 42] (by decide +kernel) (by decide +kernel)
set_option maxRecDepth 20000 in
theorem gX3_endStorms_X3_endShut : GoodIn wsX3_endStorms (wsV RX3 136 RX3 yX3_endShut wsX3_endShut) := goodIn_app (goodIn_of _ (by decide +kernel)) ggX3_endStorms_X3_endShut
theorem dX3_endStorms_0 : decode cX3_endStorms 0 = .ok (.iconst 0, 1) := by decide +kernel
theorem dX3_endStorms_1 : decode cX3_endStorms 1 = .ok (.istore_n 1, 1) := by decide +kernel
theorem dX3_endStorms_2 : decode cX3_endStorms 2 = .ok (.iload_n 1, 1) := by decide +kernel
theorem dX3_endStorms_3 : decode cX3_endStorms 3 = .ok (.bipush 30, 2) := by decide +kernel
theorem dX3_endStorms_5 : decode cX3_endStorms 5 = .ok (.if_icmp .ge 36, 3) := by decide +kernel
theorem dX3_endStorms_8 : decode cX3_endStorms 8 = .ok (.aload_n 0, 1) := by decide +kernel
theorem dX3_endStorms_9 : decode cX3_endStorms 9 = .ok (.getfield 24, 3) := by decide +kernel
theorem dX3_endStorms_12 : decode cX3_endStorms 12 = .ok (.iload_n 1, 1) := by decide +kernel
theorem dX3_endStorms_13 : decode cX3_endStorms 13 = .ok (.iaload, 1) := by decide +kernel
theorem dX3_endStorms_14 : decode cX3_endStorms 14 = .ok (.ifCond .le 21, 3) := by decide +kernel
theorem dX3_endStorms_17 : decode cX3_endStorms 17 = .ok (.aload_n 0, 1) := by decide +kernel
theorem dX3_endStorms_18 : decode cX3_endStorms 18 = .ok (.getfield 24, 3) := by decide +kernel
theorem dX3_endStorms_21 : decode cX3_endStorms 21 = .ok (.iload_n 1, 1) := by decide +kernel
theorem dX3_endStorms_22 : decode cX3_endStorms 22 = .ok (.iaload, 1) := by decide +kernel
theorem dX3_endStorms_23 : decode cX3_endStorms 23 = .ok (.aload_n 0, 1) := by decide +kernel
theorem dX3_endStorms_24 : decode cX3_endStorms 24 = .ok (.getfield 59, 3) := by decide +kernel
theorem dX3_endStorms_27 : decode cX3_endStorms 27 = .ok (.if_icmp .gt 8, 3) := by decide +kernel
theorem dX3_endStorms_30 : decode cX3_endStorms 30 = .ok (.aload_n 0, 1) := by decide +kernel
theorem dX3_endStorms_31 : decode cX3_endStorms 31 = .ok (.iload_n 1, 1) := by decide +kernel
theorem dX3_endStorms_32 : decode cX3_endStorms 32 = .ok (.invokevirtual 136, 3) := by decide +kernel
theorem dX3_endStorms_35 : decode cX3_endStorms 35 = .ok (.iinc 1 1, 3) := by decide +kernel
theorem dX3_endStorms_38 : decode cX3_endStorms 38 = .ok (.goto (-36), 3) := by decide +kernel
theorem dX3_endStorms_41 : decode cX3_endStorms 41 = .ok (.return_, 1) := by decide +kernel
set_option maxRecDepth 20000 in
theorem ggX3_measureWays_X3_isJoined : GoodIn wsX3_measureWays wsX3_isJoined := goodIn_r _ [9, 2, 3, 10, 11, 12, 8, 13, 14, 19, 20, 21, 22, 23, 24, 25, 26, 27, 28, 29, 30, 31, 32, 33, 34, 35, 36, 37, 38, 39, 40, 41, 42] (by decide +kernel) (by decide +kernel)
set_option maxRecDepth 20000 in
theorem gX3_measureWays_X3_isJoined : GoodIn wsX3_measureWays (wsV RX3 100 RX3 yX3_isJoined wsX3_isJoined) := goodIn_app (goodIn_of _ (by decide +kernel)) ggX3_measureWays_X3_isJoined
set_option maxRecDepth 20000 in
theorem ggX3_measureWays_X3_shorten : GoodIn wsX3_measureWays wsX3_shorten := goodIn_r _ [18, 1, 19, 20, 21, 22, 23, 24, 25, 26, 27, 28, 29, 30, 31, 32, 33, 34] (by decide +kernel) (by decide +kernel)
set_option maxRecDepth 20000 in
theorem gX3_measureWays_X3_shorten : GoodIn wsX3_measureWays (wsV RX3 139 RX3 yX3_shorten wsX3_shorten) := goodIn_app (goodIn_of _ (by decide +kernel)) ggX3_measureWays_X3_shorten
theorem dX3_measureWays_0 : decode cX3_measureWays 0 = .ok (.iconst 0, 1) := by decide +kernel
theorem dX3_measureWays_1 : decode cX3_measureWays 1 = .ok (.istore_n 2, 1) := by decide +kernel
theorem dX3_measureWays_2 : decode cX3_measureWays 2 = .ok (.iload_n 2, 1) := by decide +kernel
theorem dX3_measureWays_3 : decode cX3_measureWays 3 = .ok (.bipush 6, 2) := by decide +kernel
theorem dX3_measureWays_5 : decode cX3_measureWays 5 = .ok (.if_icmp .ge 25, 3) := by decide +kernel
theorem dX3_measureWays_8 : decode cX3_measureWays 8 = .ok (.aload_n 0, 1) := by decide +kernel
theorem dX3_measureWays_9 : decode cX3_measureWays 9 = .ok (.getfield 52, 3) := by decide +kernel
theorem dX3_measureWays_12 : decode cX3_measureWays 12 = .ok (.iload_n 2, 1) := by decide +kernel
theorem dX3_measureWays_13 : decode cX3_measureWays 13 = .ok (.iload_n 2, 1) := by decide +kernel
theorem dX3_measureWays_14 : decode cX3_measureWays 14 = .ok (.iload_n 1, 1) := by decide +kernel
theorem dX3_measureWays_15 : decode cX3_measureWays 15 = .ok (.if_icmp .ne 7, 3) := by decide +kernel
theorem dX3_measureWays_18 : decode cX3_measureWays 18 = .ok (.iconst 0, 1) := by decide +kernel
theorem dX3_measureWays_19 : decode cX3_measureWays 19 = .ok (.goto 4, 3) := by decide +kernel
theorem dX3_measureWays_22 : decode cX3_measureWays 22 = .ok (.iconst (-1), 1) := by decide +kernel
theorem dX3_measureWays_23 : decode cX3_measureWays 23 = .ok (.iastore, 1) := by decide +kernel
theorem dX3_measureWays_24 : decode cX3_measureWays 24 = .ok (.iinc 2 1, 3) := by decide +kernel
theorem dX3_measureWays_27 : decode cX3_measureWays 27 = .ok (.goto (-25), 3) := by decide +kernel
theorem dX3_measureWays_30 : decode cX3_measureWays 30 = .ok (.iconst 0, 1) := by decide +kernel
theorem dX3_measureWays_31 : decode cX3_measureWays 31 = .ok (.istore_n 2, 1) := by decide +kernel
theorem dX3_measureWays_32 : decode cX3_measureWays 32 = .ok (.iload_n 2, 1) := by decide +kernel
theorem dX3_measureWays_33 : decode cX3_measureWays 33 = .ok (.bipush 6, 2) := by decide +kernel
theorem dX3_measureWays_35 : decode cX3_measureWays 35 = .ok (.if_icmp .ge 76, 3) := by decide +kernel
theorem dX3_measureWays_38 : decode cX3_measureWays 38 = .ok (.iconst 0, 1) := by decide +kernel
theorem dX3_measureWays_39 : decode cX3_measureWays 39 = .ok (.istore_n 3, 1) := by decide +kernel
theorem dX3_measureWays_40 : decode cX3_measureWays 40 = .ok (.iload_n 3, 1) := by decide +kernel
theorem dX3_measureWays_41 : decode cX3_measureWays 41 = .ok (.bipush 30, 2) := by decide +kernel
theorem dX3_measureWays_43 : decode cX3_measureWays 43 = .ok (.if_icmp .ge 62, 3) := by decide +kernel
theorem dX3_measureWays_46 : decode cX3_measureWays 46 = .ok (.aload_n 0, 1) := by decide +kernel
theorem dX3_measureWays_47 : decode cX3_measureWays 47 = .ok (.getfield 52, 3) := by decide +kernel
theorem dX3_measureWays_50 : decode cX3_measureWays 50 = .ok (.iload_n 3, 1) := by decide +kernel
theorem dX3_measureWays_51 : decode cX3_measureWays 51 = .ok (.iconst 5, 1) := by decide +kernel
theorem dX3_measureWays_52 : decode cX3_measureWays 52 = .ok (.idiv, 1) := by decide +kernel
theorem dX3_measureWays_53 : decode cX3_measureWays 53 = .ok (.iaload, 1) := by decide +kernel
theorem dX3_measureWays_54 : decode cX3_measureWays 54 = .ok (.iconst (-1), 1) := by decide +kernel
theorem dX3_measureWays_55 : decode cX3_measureWays 55 = .ok (.if_icmp .eq 44, 3) := by decide +kernel
theorem dX3_measureWays_58 : decode cX3_measureWays 58 = .ok (.aload_n 0, 1) := by decide +kernel
theorem dX3_measureWays_59 : decode cX3_measureWays 59 = .ok (.iload_n 3, 1) := by decide +kernel
theorem dX3_measureWays_60 : decode cX3_measureWays 60 = .ok (.invokevirtual 100, 3) := by decide +kernel
theorem dX3_measureWays_63 : decode cX3_measureWays 63 = .ok (.ifCond .eq 36, 3) := by decide +kernel
theorem dX3_measureWays_66 : decode cX3_measureWays 66 = .ok (.aload_n 0, 1) := by decide +kernel
theorem dX3_measureWays_67 : decode cX3_measureWays 67 = .ok (.aload_n 0, 1) := by decide +kernel
theorem dX3_measureWays_68 : decode cX3_measureWays 68 = .ok (.getfield 55, 3) := by decide +kernel
theorem dX3_measureWays_71 : decode cX3_measureWays 71 = .ok (.getfield 63, 3) := by decide +kernel
theorem dX3_measureWays_74 : decode cX3_measureWays 74 = .ok (.iload_n 3, 1) := by decide +kernel
theorem dX3_measureWays_75 : decode cX3_measureWays 75 = .ok (.iaload, 1) := by decide +kernel
theorem dX3_measureWays_76 : decode cX3_measureWays 76 = .ok (.iconst 5, 1) := by decide +kernel
theorem dX3_measureWays_77 : decode cX3_measureWays 77 = .ok (.idiv, 1) := by decide +kernel
theorem dX3_measureWays_78 : decode cX3_measureWays 78 = .ok (.aload_n 0, 1) := by decide +kernel
theorem dX3_measureWays_79 : decode cX3_measureWays 79 = .ok (.getfield 52, 3) := by decide +kernel
theorem dX3_measureWays_82 : decode cX3_measureWays 82 = .ok (.iload_n 3, 1) := by decide +kernel
theorem dX3_measureWays_83 : decode cX3_measureWays 83 = .ok (.iconst 5, 1) := by decide +kernel
theorem dX3_measureWays_84 : decode cX3_measureWays 84 = .ok (.idiv, 1) := by decide +kernel
theorem dX3_measureWays_85 : decode cX3_measureWays 85 = .ok (.iaload, 1) := by decide +kernel
theorem dX3_measureWays_86 : decode cX3_measureWays 86 = .ok (.aload_n 0, 1) := by decide +kernel
theorem dX3_measureWays_87 : decode cX3_measureWays 87 = .ok (.getfield 55, 3) := by decide +kernel
theorem dX3_measureWays_90 : decode cX3_measureWays 90 = .ok (.getfield 124, 3) := by decide +kernel
theorem dX3_measureWays_93 : decode cX3_measureWays 93 = .ok (.iload_n 3, 1) := by decide +kernel
theorem dX3_measureWays_94 : decode cX3_measureWays 94 = .ok (.iaload, 1) := by decide +kernel
theorem dX3_measureWays_95 : decode cX3_measureWays 95 = .ok (.iadd, 1) := by decide +kernel
theorem dX3_measureWays_96 : decode cX3_measureWays 96 = .ok (.invokevirtual 139, 3) := by decide +kernel
theorem dX3_measureWays_99 : decode cX3_measureWays 99 = .ok (.iinc 3 1, 3) := by decide +kernel
theorem dX3_measureWays_102 : decode cX3_measureWays 102 = .ok (.goto (-62), 3) := by decide +kernel
theorem dX3_measureWays_105 : decode cX3_measureWays 105 = .ok (.iinc 2 1, 3) := by decide +kernel
theorem dX3_measureWays_108 : decode cX3_measureWays 108 = .ok (.goto (-76), 3) := by decide +kernel
theorem dX3_measureWays_111 : decode cX3_measureWays 111 = .ok (.return_, 1) := by decide +kernel
theorem dX3_shorten_0 : decode cX3_shorten 0 = .ok (.aload_n 0, 1) := by decide +kernel
theorem dX3_shorten_1 : decode cX3_shorten 1 = .ok (.getfield 52, 3) := by decide +kernel
theorem dX3_shorten_4 : decode cX3_shorten 4 = .ok (.iload_n 1, 1) := by decide +kernel
theorem dX3_shorten_5 : decode cX3_shorten 5 = .ok (.iaload, 1) := by decide +kernel
theorem dX3_shorten_6 : decode cX3_shorten 6 = .ok (.iconst (-1), 1) := by decide +kernel
theorem dX3_shorten_7 : decode cX3_shorten 7 = .ok (.if_icmp .eq 13, 3) := by decide +kernel
theorem dX3_shorten_10 : decode cX3_shorten 10 = .ok (.iload_n 2, 1) := by decide +kernel
theorem dX3_shorten_11 : decode cX3_shorten 11 = .ok (.aload_n 0, 1) := by decide +kernel
theorem dX3_shorten_12 : decode cX3_shorten 12 = .ok (.getfield 52, 3) := by decide +kernel
theorem dX3_shorten_15 : decode cX3_shorten 15 = .ok (.iload_n 1, 1) := by decide +kernel
theorem dX3_shorten_16 : decode cX3_shorten 16 = .ok (.iaload, 1) := by decide +kernel
theorem dX3_shorten_17 : decode cX3_shorten 17 = .ok (.if_icmp .ge 10, 3) := by decide +kernel
theorem dX3_shorten_20 : decode cX3_shorten 20 = .ok (.aload_n 0, 1) := by decide +kernel
theorem dX3_shorten_21 : decode cX3_shorten 21 = .ok (.getfield 52, 3) := by decide +kernel
theorem dX3_shorten_24 : decode cX3_shorten 24 = .ok (.iload_n 1, 1) := by decide +kernel
theorem dX3_shorten_25 : decode cX3_shorten 25 = .ok (.iload_n 2, 1) := by decide +kernel
theorem dX3_shorten_26 : decode cX3_shorten 26 = .ok (.iastore, 1) := by decide +kernel
theorem dX3_shorten_27 : decode cX3_shorten 27 = .ok (.return_, 1) := by decide +kernel
theorem dX4_init_0 : decode cX4_init 0 = .ok (.aload_n 0, 1) := by decide +kernel
theorem dX4_init_1 : decode cX4_init 1 = .ok (.invokespecial 3, 3) := by decide +kernel
theorem dX4_init_4 : decode cX4_init 4 = .ok (.aload_n 0, 1) := by decide +kernel
theorem dX4_init_5 : decode cX4_init 5 = .ok (.bipush 30, 2) := by decide +kernel
theorem dX4_init_7 : decode cX4_init 7 = .ok (.newarray .int, 2) := by decide +kernel
theorem dX4_init_9 : decode cX4_init 9 = .ok (.putfield 9, 3) := by decide +kernel
theorem dX4_init_12 : decode cX4_init 12 = .ok (.aload_n 0, 1) := by decide +kernel
theorem dX4_init_13 : decode cX4_init 13 = .ok (.bipush 30, 2) := by decide +kernel
theorem dX4_init_15 : decode cX4_init 15 = .ok (.newarray .int, 2) := by decide +kernel
theorem dX4_init_17 : decode cX4_init 17 = .ok (.putfield 15, 3) := by decide +kernel
theorem dX4_init_20 : decode cX4_init 20 = .ok (.aload_n 0, 1) := by decide +kernel
theorem dX4_init_21 : decode cX4_init 21 = .ok (.bipush 30, 2) := by decide +kernel
theorem dX4_init_23 : decode cX4_init 23 = .ok (.newarray .int, 2) := by decide +kernel
theorem dX4_init_25 : decode cX4_init 25 = .ok (.putfield 18, 3) := by decide +kernel
theorem dX4_init_28 : decode cX4_init 28 = .ok (.aload_n 0, 1) := by decide +kernel
theorem dX4_init_29 : decode cX4_init 29 = .ok (.bipush 30, 2) := by decide +kernel
theorem dX4_init_31 : decode cX4_init 31 = .ok (.newarray .int, 2) := by decide +kernel
theorem dX4_init_33 : decode cX4_init 33 = .ok (.putfield 21, 3) := by decide +kernel
theorem dX4_init_36 : decode cX4_init 36 = .ok (.aload_n 0, 1) := by decide +kernel
theorem dX4_init_37 : decode cX4_init 37 = .ok (.bipush 10, 2) := by decide +kernel
theorem dX4_init_39 : decode cX4_init 39 = .ok (.newarray .int, 2) := by decide +kernel
theorem dX4_init_41 : decode cX4_init 41 = .ok (.putfield 24, 3) := by decide +kernel
theorem dX4_init_44 : decode cX4_init 44 = .ok (.aload_n 0, 1) := by decide +kernel
theorem dX4_init_45 : decode cX4_init 45 = .ok (.bipush 6, 2) := by decide +kernel
theorem dX4_init_47 : decode cX4_init 47 = .ok (.newarray .int, 2) := by decide +kernel
theorem dX4_init_49 : decode cX4_init 49 = .ok (.putfield 27, 3) := by decide +kernel
theorem dX4_init_52 : decode cX4_init 52 = .ok (.iconst 0, 1) := by decide +kernel
theorem dX4_init_53 : decode cX4_init 53 = .ok (.istore_n 1, 1) := by decide +kernel
theorem dX4_init_54 : decode cX4_init 54 = .ok (.iload_n 1, 1) := by decide +kernel
theorem dX4_init_55 : decode cX4_init 55 = .ok (.bipush 30, 2) := by decide +kernel
theorem dX4_init_57 : decode cX4_init 57 = .ok (.if_icmp .ge 23, 3) := by decide +kernel
theorem dX4_init_60 : decode cX4_init 60 = .ok (.aload_n 0, 1) := by decide +kernel
theorem dX4_init_61 : decode cX4_init 61 = .ok (.getfield 9, 3) := by decide +kernel
theorem dX4_init_64 : decode cX4_init 64 = .ok (.iload_n 1, 1) := by decide +kernel
theorem dX4_init_65 : decode cX4_init 65 = .ok (.iconst (-1), 1) := by decide +kernel
theorem dX4_init_66 : decode cX4_init 66 = .ok (.iastore, 1) := by decide +kernel
theorem dX4_init_67 : decode cX4_init 67 = .ok (.aload_n 0, 1) := by decide +kernel
theorem dX4_init_68 : decode cX4_init 68 = .ok (.getfield 18, 3) := by decide +kernel
theorem dX4_init_71 : decode cX4_init 71 = .ok (.iload_n 1, 1) := by decide +kernel
theorem dX4_init_72 : decode cX4_init 72 = .ok (.iconst (-1), 1) := by decide +kernel
theorem dX4_init_73 : decode cX4_init 73 = .ok (.iastore, 1) := by decide +kernel
theorem dX4_init_74 : decode cX4_init 74 = .ok (.iinc 1 1, 3) := by decide +kernel
theorem dX4_init_77 : decode cX4_init 77 = .ok (.goto (-23), 3) := by decide +kernel
theorem dX4_init_80 : decode cX4_init 80 = .ok (.iconst 0, 1) := by decide +kernel
theorem dX4_init_81 : decode cX4_init 81 = .ok (.istore_n 1, 1) := by decide +kernel
theorem dX4_init_82 : decode cX4_init 82 = .ok (.iload_n 1, 1) := by decide +kernel
theorem dX4_init_83 : decode cX4_init 83 = .ok (.bipush 10, 2) := by decide +kernel
theorem dX4_init_85 : decode cX4_init 85 = .ok (.if_icmp .ge 16, 3) := by decide +kernel
theorem dX4_init_88 : decode cX4_init 88 = .ok (.aload_n 0, 1) := by decide +kernel
theorem dX4_init_89 : decode cX4_init 89 = .ok (.getfield 24, 3) := by decide +kernel
theorem dX4_init_92 : decode cX4_init 92 = .ok (.iload_n 1, 1) := by decide +kernel
theorem dX4_init_93 : decode cX4_init 93 = .ok (.iconst (-1), 1) := by decide +kernel
theorem dX4_init_94 : decode cX4_init 94 = .ok (.iastore, 1) := by decide +kernel
theorem dX4_init_95 : decode cX4_init 95 = .ok (.iinc 1 1, 3) := by decide +kernel
theorem dX4_init_98 : decode cX4_init 98 = .ok (.goto (-16), 3) := by decide +kernel
theorem dX4_init_101 : decode cX4_init 101 = .ok (.iconst 0, 1) := by decide +kernel
theorem dX4_init_102 : decode cX4_init 102 = .ok (.istore_n 1, 1) := by decide +kernel
theorem dX4_init_103 : decode cX4_init 103 = .ok (.iload_n 1, 1) := by decide +kernel
theorem dX4_init_104 : decode cX4_init 104 = .ok (.bipush 6, 2) := by decide +kernel
theorem dX4_init_106 : decode cX4_init 106 = .ok (.if_icmp .ge 17, 3) := by decide +kernel
theorem dX4_init_109 : decode cX4_init 109 = .ok (.aload_n 0, 1) := by decide +kernel
theorem dX4_init_110 : decode cX4_init 110 = .ok (.getfield 27, 3) := by decide +kernel
theorem dX4_init_113 : decode cX4_init 113 = .ok (.iload_n 1, 1) := by decide +kernel
theorem dX4_init_114 : decode cX4_init 114 = .ok (.bipush 8, 2) := by decide +kernel
theorem dX4_init_116 : decode cX4_init 116 = .ok (.iastore, 1) := by decide +kernel
theorem dX4_init_117 : decode cX4_init 117 = .ok (.iinc 1 1, 3) := by decide +kernel
theorem dX4_init_120 : decode cX4_init 120 = .ok (.goto (-17), 3) := by decide +kernel
theorem dX4_init_123 : decode cX4_init 123 = .ok (.return_, 1) := by decide +kernel
theorem dX4_isBare_0 : decode cX4_isBare 0 = .ok (.aload_n 0, 1) := by decide +kernel
theorem dX4_isBare_1 : decode cX4_isBare 1 = .ok (.getfield 9, 3) := by decide +kernel
theorem dX4_isBare_4 : decode cX4_isBare 4 = .ok (.iload_n 1, 1) := by decide +kernel
theorem dX4_isBare_5 : decode cX4_isBare 5 = .ok (.iaload, 1) := by decide +kernel
theorem dX4_isBare_6 : decode cX4_isBare 6 = .ok (.iconst (-1), 1) := by decide +kernel
theorem dX4_isBare_7 : decode cX4_isBare 7 = .ok (.if_icmp .ne 17, 3) := by decide +kernel
theorem dX4_isBare_10 : decode cX4_isBare 10 = .ok (.aload_n 0, 1) := by decide +kernel
theorem dX4_isBare_11 : decode cX4_isBare 11 = .ok (.getfield 18, 3) := by decide +kernel
theorem dX4_isBare_14 : decode cX4_isBare 14 = .ok (.iload_n 1, 1) := by decide +kernel
theorem dX4_isBare_15 : decode cX4_isBare 15 = .ok (.iaload, 1) := by decide +kernel
theorem dX4_isBare_16 : decode cX4_isBare 16 = .ok (.iconst (-1), 1) := by decide +kernel
theorem dX4_isBare_17 : decode cX4_isBare 17 = .ok (.if_icmp .ne 7, 3) := by decide +kernel
theorem dX4_isBare_20 : decode cX4_isBare 20 = .ok (.iconst 1, 1) := by decide +kernel
theorem dX4_isBare_21 : decode cX4_isBare 21 = .ok (.goto 4, 3) := by decide +kernel
theorem dX4_isBare_24 : decode cX4_isBare 24 = .ok (.iconst 0, 1) := by decide +kernel
theorem dX4_isBare_25 : decode cX4_isBare 25 = .ok (.ireturn, 1) := by decide +kernel
theorem dX4_isBetterName_0 : decode cX4_isBetterName 0 = .ok (.aload_n 0, 1) := by decide +kernel
theorem dX4_isBetterName_1 : decode cX4_isBetterName 1 = .ok (.getfield 27, 3) := by decide +kernel
theorem dX4_isBetterName_4 : decode cX4_isBetterName 4 = .ok (.iload_n 1, 1) := by decide +kernel
theorem dX4_isBetterName_5 : decode cX4_isBetterName 5 = .ok (.iaload, 1) := by decide +kernel
theorem dX4_isBetterName_6 : decode cX4_isBetterName 6 = .ok (.aload_n 0, 1) := by decide +kernel
theorem dX4_isBetterName_7 : decode cX4_isBetterName 7 = .ok (.getfield 27, 3) := by decide +kernel
theorem dX4_isBetterName_10 : decode cX4_isBetterName 10 = .ok (.iload_n 2, 1) := by decide +kernel
theorem dX4_isBetterName_11 : decode cX4_isBetterName 11 = .ok (.iaload, 1) := by decide +kernel
theorem dX4_isBetterName_12 : decode cX4_isBetterName 12 = .ok (.if_icmp .eq 26, 3) := by decide +kernel
theorem dX4_isBetterName_15 : decode cX4_isBetterName 15 = .ok (.aload_n 0, 1) := by decide +kernel
theorem dX4_isBetterName_16 : decode cX4_isBetterName 16 = .ok (.getfield 27, 3) := by decide +kernel
theorem dX4_isBetterName_19 : decode cX4_isBetterName 19 = .ok (.iload_n 1, 1) := by decide +kernel
theorem dX4_isBetterName_20 : decode cX4_isBetterName 20 = .ok (.iaload, 1) := by decide +kernel
theorem dX4_isBetterName_21 : decode cX4_isBetterName 21 = .ok (.aload_n 0, 1) := by decide +kernel
theorem dX4_isBetterName_22 : decode cX4_isBetterName 22 = .ok (.getfield 27, 3) := by decide +kernel
theorem dX4_isBetterName_25 : decode cX4_isBetterName 25 = .ok (.iload_n 2, 1) := by decide +kernel
theorem dX4_isBetterName_26 : decode cX4_isBetterName 26 = .ok (.iaload, 1) := by decide +kernel
theorem dX4_isBetterName_27 : decode cX4_isBetterName 27 = .ok (.if_icmp .ge 7, 3) := by decide +kernel
theorem dX4_isBetterName_30 : decode cX4_isBetterName 30 = .ok (.iconst 1, 1) := by decide +kernel
theorem dX4_isBetterName_31 : decode cX4_isBetterName 31 = .ok (.goto 17, 3) := by decide +kernel
theorem dX4_isBetterName_34 : decode cX4_isBetterName 34 = .ok (.iconst 0, 1) := by decide +kernel
theorem dX4_isBetterName_35 : decode cX4_isBetterName 35 = .ok (.goto 13, 3) := by decide +kernel
theorem dX4_isBetterName_38 : decode cX4_isBetterName 38 = .ok (.iload_n 1, 1) := by decide +kernel
theorem dX4_isBetterName_39 : decode cX4_isBetterName 39 = .ok (.iload_n 2, 1) := by decide +kernel
theorem dX4_isBetterName_40 : decode cX4_isBetterName 40 = .ok (.if_icmp .ge 7, 3) := by decide +kernel
theorem dX4_isBetterName_43 : decode cX4_isBetterName 43 = .ok (.iconst 1, 1) := by decide +kernel
theorem dX4_isBetterName_44 : decode cX4_isBetterName 44 = .ok (.goto 4, 3) := by decide +kernel
theorem dX4_isBetterName_47 : decode cX4_isBetterName 47 = .ok (.iconst 0, 1) := by decide +kernel
theorem dX4_isBetterName_48 : decode cX4_isBetterName 48 = .ok (.ireturn, 1) := by decide +kernel
theorem dX4_putWire_0 : decode cX4_putWire 0 = .ok (.aload_n 0, 1) := by decide +kernel
theorem dX4_putWire_1 : decode cX4_putWire 1 = .ok (.getfield 9, 3) := by decide +kernel
theorem dX4_putWire_4 : decode cX4_putWire 4 = .ok (.iload_n 1, 1) := by decide +kernel
theorem dX4_putWire_5 : decode cX4_putWire 5 = .ok (.iload_n 2, 1) := by decide +kernel
theorem dX4_putWire_6 : decode cX4_putWire 6 = .ok (.iastore, 1) := by decide +kernel
theorem dX4_putWire_7 : decode cX4_putWire 7 = .ok (.aload_n 0, 1) := by decide +kernel
theorem dX4_putWire_8 : decode cX4_putWire 8 = .ok (.getfield 9, 3) := by decide +kernel
theorem dX4_putWire_11 : decode cX4_putWire 11 = .ok (.iload_n 2, 1) := by decide +kernel
theorem dX4_putWire_12 : decode cX4_putWire 12 = .ok (.iload_n 1, 1) := by decide +kernel
theorem dX4_putWire_13 : decode cX4_putWire 13 = .ok (.iastore, 1) := by decide +kernel
theorem dX4_putWire_14 : decode cX4_putWire 14 = .ok (.aload_n 0, 1) := by decide +kernel
theorem dX4_putWire_15 : decode cX4_putWire 15 = .ok (.getfield 15, 3) := by decide +kernel
theorem dX4_putWire_18 : decode cX4_putWire 18 = .ok (.iload_n 1, 1) := by decide +kernel
theorem dX4_putWire_19 : decode cX4_putWire 19 = .ok (.iload_n 3, 1) := by decide +kernel
theorem dX4_putWire_20 : decode cX4_putWire 20 = .ok (.iastore, 1) := by decide +kernel
theorem dX4_putWire_21 : decode cX4_putWire 21 = .ok (.aload_n 0, 1) := by decide +kernel
theorem dX4_putWire_22 : decode cX4_putWire 22 = .ok (.getfield 15, 3) := by decide +kernel
theorem dX4_putWire_25 : decode cX4_putWire 25 = .ok (.iload_n 2, 1) := by decide +kernel
theorem dX4_putWire_26 : decode cX4_putWire 26 = .ok (.iload_n 3, 1) := by decide +kernel
theorem dX4_putWire_27 : decode cX4_putWire 27 = .ok (.iastore, 1) := by decide +kernel
theorem dX4_putWire_28 : decode cX4_putWire 28 = .ok (.aload_n 0, 1) := by decide +kernel
theorem dX4_putWire_29 : decode cX4_putWire 29 = .ok (.dup, 1) := by decide +kernel
theorem dX4_putWire_30 : decode cX4_putWire 30 = .ok (.getfield 30, 3) := by decide +kernel
theorem dX4_putWire_33 : decode cX4_putWire 33 = .ok (.iconst 1, 1) := by decide +kernel
theorem dX4_putWire_34 : decode cX4_putWire 34 = .ok (.iadd, 1) := by decide +kernel
theorem dX4_putWire_35 : decode cX4_putWire 35 = .ok (.putfield 30, 3) := by decide +kernel
theorem dX4_putWire_38 : decode cX4_putWire 38 = .ok (.return_, 1) := by decide +kernel
theorem dX4_takeWire_0 : decode cX4_takeWire 0 = .ok (.aload_n 0, 1) := by decide +kernel
theorem dX4_takeWire_1 : decode cX4_takeWire 1 = .ok (.getfield 9, 3) := by decide +kernel
theorem dX4_takeWire_4 : decode cX4_takeWire 4 = .ok (.iload_n 1, 1) := by decide +kernel
theorem dX4_takeWire_5 : decode cX4_takeWire 5 = .ok (.iconst (-1), 1) := by decide +kernel
theorem dX4_takeWire_6 : decode cX4_takeWire 6 = .ok (.iastore, 1) := by decide +kernel
theorem dX4_takeWire_7 : decode cX4_takeWire 7 = .ok (.aload_n 0, 1) := by decide +kernel
theorem dX4_takeWire_8 : decode cX4_takeWire 8 = .ok (.getfield 9, 3) := by decide +kernel
theorem dX4_takeWire_11 : decode cX4_takeWire 11 = .ok (.iload_n 2, 1) := by decide +kernel
theorem dX4_takeWire_12 : decode cX4_takeWire 12 = .ok (.iconst (-1), 1) := by decide +kernel
theorem dX4_takeWire_13 : decode cX4_takeWire 13 = .ok (.iastore, 1) := by decide +kernel
theorem dX4_takeWire_14 : decode cX4_takeWire 14 = .ok (.aload_n 0, 1) := by decide +kernel
theorem dX4_takeWire_15 : decode cX4_takeWire 15 = .ok (.dup, 1) := by decide +kernel
theorem dX4_takeWire_16 : decode cX4_takeWire 16 = .ok (.getfield 30, 3) := by decide +kernel
theorem dX4_takeWire_19 : decode cX4_takeWire 19 = .ok (.iconst 1, 1) := by decide +kernel
theorem dX4_takeWire_20 : decode cX4_takeWire 20 = .ok (.isub, 1) := by decide +kernel
theorem dX4_takeWire_21 : decode cX4_takeWire 21 = .ok (.putfield 30, 3) := by decide +kernel
theorem dX4_takeWire_24 : decode cX4_takeWire 24 = .ok (.return_, 1) := by decide +kernel
theorem dX4_putHouse_0 : decode cX4_putHouse 0 = .ok (.aload_n 0, 1) := by decide +kernel
theorem dX4_putHouse_1 : decode cX4_putHouse 1 = .ok (.getfield 18, 3) := by decide +kernel
theorem dX4_putHouse_4 : decode cX4_putHouse 4 = .ok (.iload_n 1, 1) := by decide +kernel
theorem dX4_putHouse_5 : decode cX4_putHouse 5 = .ok (.iload_n 2, 1) := by decide +kernel
theorem dX4_putHouse_6 : decode cX4_putHouse 6 = .ok (.iastore, 1) := by decide +kernel
theorem dX4_putHouse_7 : decode cX4_putHouse 7 = .ok (.aload_n 0, 1) := by decide +kernel
theorem dX4_putHouse_8 : decode cX4_putHouse 8 = .ok (.getfield 24, 3) := by decide +kernel
theorem dX4_putHouse_11 : decode cX4_putHouse 11 = .ok (.iload_n 2, 1) := by decide +kernel
theorem dX4_putHouse_12 : decode cX4_putHouse 12 = .ok (.iload_n 1, 1) := by decide +kernel
theorem dX4_putHouse_13 : decode cX4_putHouse 13 = .ok (.iastore, 1) := by decide +kernel
theorem dX4_putHouse_14 : decode cX4_putHouse 14 = .ok (.aload_n 0, 1) := by decide +kernel
theorem dX4_putHouse_15 : decode cX4_putHouse 15 = .ok (.dup, 1) := by decide +kernel
theorem dX4_putHouse_16 : decode cX4_putHouse 16 = .ok (.getfield 34, 3) := by decide +kernel
theorem dX4_putHouse_19 : decode cX4_putHouse 19 = .ok (.iconst 1, 1) := by decide +kernel
theorem dX4_putHouse_20 : decode cX4_putHouse 20 = .ok (.iadd, 1) := by decide +kernel
theorem dX4_putHouse_21 : decode cX4_putHouse 21 = .ok (.putfield 34, 3) := by decide +kernel
theorem dX4_putHouse_24 : decode cX4_putHouse 24 = .ok (.return_, 1) := by decide +kernel
theorem dX4_takeHouse_0 : decode cX4_takeHouse 0 = .ok (.aload_n 0, 1) := by decide +kernel
theorem dX4_takeHouse_1 : decode cX4_takeHouse 1 = .ok (.getfield 18, 3) := by decide +kernel
theorem dX4_takeHouse_4 : decode cX4_takeHouse 4 = .ok (.iload_n 1, 1) := by decide +kernel
theorem dX4_takeHouse_5 : decode cX4_takeHouse 5 = .ok (.iaload, 1) := by decide +kernel
theorem dX4_takeHouse_6 : decode cX4_takeHouse 6 = .ok (.istore_n 2, 1) := by decide +kernel
theorem dX4_takeHouse_7 : decode cX4_takeHouse 7 = .ok (.aload_n 0, 1) := by decide +kernel
theorem dX4_takeHouse_8 : decode cX4_takeHouse 8 = .ok (.getfield 18, 3) := by decide +kernel
theorem dX4_takeHouse_11 : decode cX4_takeHouse 11 = .ok (.iload_n 1, 1) := by decide +kernel
theorem dX4_takeHouse_12 : decode cX4_takeHouse 12 = .ok (.iconst (-1), 1) := by decide +kernel
theorem dX4_takeHouse_13 : decode cX4_takeHouse 13 = .ok (.iastore, 1) := by decide +kernel
theorem dX4_takeHouse_14 : decode cX4_takeHouse 14 = .ok (.iload_n 2, 1) := by decide +kernel
theorem dX4_takeHouse_15 : decode cX4_takeHouse 15 = .ok (.iconst (-1), 1) := by decide +kernel
theorem dX4_takeHouse_16 : decode cX4_takeHouse 16 = .ok (.if_icmp .eq 20, 3) := by decide +kernel
theorem dX4_takeHouse_19 : decode cX4_takeHouse 19 = .ok (.aload_n 0, 1) := by decide +kernel
theorem dX4_takeHouse_20 : decode cX4_takeHouse 20 = .ok (.getfield 24, 3) := by decide +kernel
theorem dX4_takeHouse_23 : decode cX4_takeHouse 23 = .ok (.iload_n 2, 1) := by decide +kernel
theorem dX4_takeHouse_24 : decode cX4_takeHouse 24 = .ok (.iconst (-1), 1) := by decide +kernel
theorem dX4_takeHouse_25 : decode cX4_takeHouse 25 = .ok (.iastore, 1) := by decide +kernel
theorem dX4_takeHouse_26 : decode cX4_takeHouse 26 = .ok (.aload_n 0, 1) := by decide +kernel
theorem dX4_takeHouse_27 : decode cX4_takeHouse 27 = .ok (.dup, 1) := by decide +kernel
theorem dX4_takeHouse_28 : decode cX4_takeHouse 28 = .ok (.getfield 34, 3) := by decide +kernel
theorem dX4_takeHouse_31 : decode cX4_takeHouse 31 = .ok (.iconst 1, 1) := by decide +kernel
theorem dX4_takeHouse_32 : decode cX4_takeHouse 32 = .ok (.isub, 1) := by decide +kernel
theorem dX4_takeHouse_33 : decode cX4_takeHouse 33 = .ok (.putfield 34, 3) := by decide +kernel
theorem dX4_takeHouse_36 : decode cX4_takeHouse 36 = .ok (.iload_n 2, 1) := by decide +kernel
theorem dX4_takeHouse_37 : decode cX4_takeHouse 37 = .ok (.ireturn, 1) := by decide +kernel
set_option maxRecDepth 20000 in
theorem ggX5_init_X4_init : GoodIn wsX5_init wsX4_init := goodIn_r _ [32, 33, 2, 3, 25, 34, 35, 36, 37, 38, 39, 80, 81, 82, 83, 84, 85, 86, 87] (by decide +kernel) (by decide +kernel)
set_option maxRecDepth 20000 in
theorem gX5_init_X4_init : GoodIn wsX5_init (wsX4_init) := ggX5_init_X4_init
set_option maxRecDepth 20000 in
theorem ggX5_init_X3_init : GoodIn wsX5_init wsX3_init := goodIn_r _ [42, 43, 2, 3, 25, 44, 45, 46, 47, 48, 49, 50, 51, 52, 53, 54, 55, 56, 57, 58, 59, 98, 99, 100, 101, 102, 103, 104, 105, 106, 107, 108, 109, 110, 111, 112, 113] (by decide +kernel) (by decide +kernel)
set_option maxRecDepth 20000 in
theorem gX5_init_X3_init : GoodIn wsX5_init (wsX3_init) := ggX5_init_X3_init
set_option maxRecDepth 20000 in
theorem ggX5_init_X0_init : GoodIn wsX5_init wsX0_init := goodIn_r _ [62, 63, 2, 3, 25, 64, 65, 114, 115] (by decide +kernel) (by decide +kernel)
set_option maxRecDepth 20000 in
theorem gX5_init_X0_init : GoodIn wsX5_init (wsX0_init) := ggX5_init_X0_init
set_option maxRecDepth 20000 in
theorem ggX5_init_X2_init : GoodIn wsX5_init wsX2_init := goodIn_r _ [68, 69, 2, 3, 25, 70, 71, 72, 116, 117, 118] (by decide +kernel) (by decide +kernel)
set_option maxRecDepth 20000 in
theorem gX5_init_X2_init : GoodIn wsX5_init (wsX2_init) := ggX5_init_X2_init
set_option maxRecDepth 20000 in
theorem ggX5_init_X1_init : GoodIn wsX5_init wsX1_init := goodIn_r _ [74, 75, 2, 3, 25, 76, 77, 78, 79, 119, 120, 121, 122, 123] (by decide +kernel) (by decide +kernel)
set_option maxRecDepth 20000 in
theorem gX5_init_X1_init_n44 : GoodIn wsX5_init (wsX1_init) := ggX5_init_X1_init
theorem dX5_init_0 : decode cX5_init 0 = .ok (.aload_n 0, 1) := by decide +kernel
theorem dX5_init_1 : decode cX5_init 1 = .ok (.invokespecial 3, 3) := by decide +kernel
theorem dX5_init_4 : decode cX5_init 4 = .ok (.new 9, 3) := by decide +kernel
theorem dX5_init_7 : decode cX5_init 7 = .ok (.dup, 1) := by decide +kernel
theorem dX5_init_8 : decode cX5_init 8 = .ok (.invokespecial 11, 3) := by decide +kernel
theorem dX5_init_11 : decode cX5_init 11 = .ok (.astore_n 1, 1) := by decide +kernel
theorem dX5_init_12 : decode cX5_init 12 = .ok (.aload_n 0, 1) := by decide +kernel
theorem dX5_init_13 : decode cX5_init 13 = .ok (.aload_n 1, 1) := by decide +kernel
theorem dX5_init_14 : decode cX5_init 14 = .ok (.putfield 12, 3) := by decide +kernel
theorem dX5_init_17 : decode cX5_init 17 = .ok (.aload_n 0, 1) := by decide +kernel
theorem dX5_init_18 : decode cX5_init 18 = .ok (.new 16, 3) := by decide +kernel
theorem dX5_init_21 : decode cX5_init 21 = .ok (.dup, 1) := by decide +kernel
theorem dX5_init_22 : decode cX5_init 22 = .ok (.aload_n 1, 1) := by decide +kernel
theorem dX5_init_23 : decode cX5_init 23 = .ok (.invokespecial 18, 3) := by decide +kernel
theorem dX5_init_26 : decode cX5_init 26 = .ok (.putfield 21, 3) := by decide +kernel
theorem dX5_init_29 : decode cX5_init 29 = .ok (.aload_n 0, 1) := by decide +kernel
theorem dX5_init_30 : decode cX5_init 30 = .ok (.new 16, 3) := by decide +kernel
theorem dX5_init_33 : decode cX5_init 33 = .ok (.dup, 1) := by decide +kernel
theorem dX5_init_34 : decode cX5_init 34 = .ok (.aload_n 1, 1) := by decide +kernel
theorem dX5_init_35 : decode cX5_init 35 = .ok (.invokespecial 18, 3) := by decide +kernel
theorem dX5_init_38 : decode cX5_init 38 = .ok (.putfield 25, 3) := by decide +kernel
theorem dX5_init_41 : decode cX5_init 41 = .ok (.aload_n 0, 1) := by decide +kernel
theorem dX5_init_42 : decode cX5_init 42 = .ok (.new 28, 3) := by decide +kernel
theorem dX5_init_45 : decode cX5_init 45 = .ok (.dup, 1) := by decide +kernel
theorem dX5_init_46 : decode cX5_init 46 = .ok (.invokespecial 30, 3) := by decide +kernel
theorem dX5_init_49 : decode cX5_init 49 = .ok (.putfield 31, 3) := by decide +kernel
theorem dX5_init_52 : decode cX5_init 52 = .ok (.aload_n 0, 1) := by decide +kernel
theorem dX5_init_53 : decode cX5_init 53 = .ok (.new 35, 3) := by decide +kernel
theorem dX5_init_56 : decode cX5_init 56 = .ok (.dup, 1) := by decide +kernel
theorem dX5_init_57 : decode cX5_init 57 = .ok (.invokespecial 37, 3) := by decide +kernel
theorem dX5_init_60 : decode cX5_init 60 = .ok (.putfield 38, 3) := by decide +kernel
theorem dX5_init_63 : decode cX5_init 63 = .ok (.aload_n 0, 1) := by decide +kernel
theorem dX5_init_64 : decode cX5_init 64 = .ok (.new 42, 3) := by decide +kernel
theorem dX5_init_67 : decode cX5_init 67 = .ok (.dup, 1) := by decide +kernel
theorem dX5_init_68 : decode cX5_init 68 = .ok (.invokespecial 44, 3) := by decide +kernel
theorem dX5_init_71 : decode cX5_init 71 = .ok (.putfield 45, 3) := by decide +kernel
theorem dX5_init_74 : decode cX5_init 74 = .ok (.aload_n 0, 1) := by decide +kernel
theorem dX5_init_75 : decode cX5_init 75 = .ok (.bipush 30, 2) := by decide +kernel
theorem dX5_init_77 : decode cX5_init 77 = .ok (.newarray .int, 2) := by decide +kernel
theorem dX5_init_79 : decode cX5_init 79 = .ok (.putfield 49, 3) := by decide +kernel
theorem dX5_init_82 : decode cX5_init 82 = .ok (.aload_n 0, 1) := by decide +kernel
theorem dX5_init_83 : decode cX5_init 83 = .ok (.bipush 10, 2) := by decide +kernel
theorem dX5_init_85 : decode cX5_init 85 = .ok (.newarray .int, 2) := by decide +kernel
theorem dX5_init_87 : decode cX5_init 87 = .ok (.putfield 53, 3) := by decide +kernel
theorem dX5_init_90 : decode cX5_init 90 = .ok (.aload_n 0, 1) := by decide +kernel
theorem dX5_init_91 : decode cX5_init 91 = .ok (.bipush 10, 2) := by decide +kernel
theorem dX5_init_93 : decode cX5_init 93 = .ok (.newarray .int, 2) := by decide +kernel
theorem dX5_init_95 : decode cX5_init 95 = .ok (.putfield 56, 3) := by decide +kernel
theorem dX5_init_98 : decode cX5_init 98 = .ok (.aload_n 0, 1) := by decide +kernel
theorem dX5_init_99 : decode cX5_init 99 = .ok (.bipush 20, 2) := by decide +kernel
theorem dX5_init_101 : decode cX5_init 101 = .ok (.putfield 59, 3) := by decide +kernel
theorem dX5_init_104 : decode cX5_init 104 = .ok (.return_, 1) := by decide +kernel
set_option maxRecDepth 20000 in
theorem ggX5_wire_X5_needPort : GoodIn wsX5_wire wsX5_needPort := goodIn_ca (goodIn_r _ [10, 11, 12, 13, 14, 9, 15] (by decide +kernel) (by decide +kernel)) (goodIn_sub (fun _ h => List.mem_cons_of_mem _ (List.mem_append_right _ h)) (by decide +kernel))
set_option maxRecDepth 20000 in
theorem gX5_wire_X5_needPort : GoodIn wsX5_wire (va_wsS RX5 63 yX5_needPort wsX5_needPort) := goodIn_app (goodIn_of _ (by decide +kernel)) ggX5_wire_X5_needPort
set_option maxRecDepth 20000 in
theorem ggX5_wire_X5_needWithin : GoodIn wsX5_wire wsX5_needWithin := goodIn_ca (goodIn_r _ [18, 1, 2] (by decide +kernel) (by decide +kernel)) (goodIn_sub (fun _ h => List.mem_cons_of_mem _ (List.mem_append_left _ (List.mem_append_left _ (List.mem_append_right _ h)))) (by decide +kernel))
set_option maxRecDepth 20000 in
theorem gX5_wire_X5_needWithin : GoodIn wsX5_wire (va_wsS RX5 74 yX5_needWithin wsX5_needWithin) := goodIn_app (goodIn_of _ (by decide +kernel)) ggX5_wire_X5_needWithin
set_option maxRecDepth 20000 in
theorem ggX5_wire_X5_spotOf : GoodIn wsX5_wire wsX5_spotOf := goodIn_r _ [21] (by decide +kernel) (by decide +kernel)
set_option maxRecDepth 20000 in
theorem gX5_wire_X5_spotOf : GoodIn wsX5_wire (va_wsS RX5 78 yX5_spotOf wsX5_spotOf) := goodIn_app (goodIn_of _ (by decide +kernel)) ggX5_wire_X5_spotOf
set_option maxRecDepth 20000 in
theorem ggX5_wire_X4_isBare : GoodIn wsX5_wire wsX4_isBare := goodIn_r _ [26, 27, 28, 45, 46, 47, 48, 49, 50, 51, 52] (by decide +kernel) (by decide +kernel)
set_option maxRecDepth 20000 in
theorem gX5_wire_X4_isBare : GoodIn wsX5_wire (wsV RX5 82 RX4 yX4_isBare wsX4_isBare) := goodIn_app (goodIn_of _ (by decide +kernel)) ggX5_wire_X4_isBare
set_option maxRecDepth 20000 in
theorem ggX5_wire_X4_putWire : GoodIn wsX5_wire wsX4_putWire := goodIn_r _ [32, 27, 33, 34, 45, 46, 47, 48, 49, 50, 51, 52] (by decide +kernel) (by decide +kernel)
set_option maxRecDepth 20000 in
theorem gX5_wire_X4_putWire : GoodIn wsX5_wire (wsV RX5 91 RX4 yX4_putWire wsX4_putWire) := goodIn_app (goodIn_of _ (by decide +kernel)) ggX5_wire_X4_putWire
theorem dX5_wire_0 : decode cX5_wire 0 = .ok (.iload_n 1, 1) := by decide +kernel
theorem dX5_wire_1 : decode cX5_wire 1 = .ok (.iload_n 2, 1) := by decide +kernel
theorem dX5_wire_2 : decode cX5_wire 2 = .ok (.invokestatic 63, 3) := by decide +kernel
theorem dX5_wire_5 : decode cX5_wire 5 = .ok (.iload_n 3, 1) := by decide +kernel
theorem dX5_wire_6 : decode cX5_wire 6 = .ok (.iload 4, 2) := by decide +kernel
theorem dX5_wire_8 : decode cX5_wire 8 = .ok (.invokestatic 63, 3) := by decide +kernel
theorem dX5_wire_11 : decode cX5_wire 11 = .ok (.iload_n 1, 1) := by decide +kernel
theorem dX5_wire_12 : decode cX5_wire 12 = .ok (.iload_n 3, 1) := by decide +kernel
theorem dX5_wire_13 : decode cX5_wire 13 = .ok (.if_icmp .ne 13, 3) := by decide +kernel
theorem dX5_wire_16 : decode cX5_wire 16 = .ok (.new 67, 3) := by decide +kernel
theorem dX5_wire_19 : decode cX5_wire 19 = .ok (.dup, 1) := by decide +kernel
theorem dX5_wire_20 : decode cX5_wire 20 = .ok (.ldc 69, 2) := by decide +kernel
theorem dX5_wire_22 : decode cX5_wire 22 = .ok (.invokespecial 71, 3) := by decide +kernel
theorem dX5_wire_25 : decode cX5_wire 25 = .ok (.athrow, 1) := by decide +kernel
theorem dX5_wire_26 : decode cX5_wire 26 = .ok (.iload 5, 2) := by decide +kernel
theorem dX5_wire_28 : decode cX5_wire 28 = .ok (.iconst 1, 1) := by decide +kernel
theorem dX5_wire_29 : decode cX5_wire 29 = .ok (.bipush 100, 2) := by decide +kernel
theorem dX5_wire_31 : decode cX5_wire 31 = .ok (.invokestatic 74, 3) := by decide +kernel
theorem dX5_wire_34 : decode cX5_wire 34 = .ok (.iload_n 1, 1) := by decide +kernel
theorem dX5_wire_35 : decode cX5_wire 35 = .ok (.iload_n 2, 1) := by decide +kernel
theorem dX5_wire_36 : decode cX5_wire 36 = .ok (.invokestatic 78, 3) := by decide +kernel
theorem dX5_wire_39 : decode cX5_wire 39 = .ok (.istore 6, 2) := by decide +kernel
theorem dX5_wire_41 : decode cX5_wire 41 = .ok (.iload_n 3, 1) := by decide +kernel
theorem dX5_wire_42 : decode cX5_wire 42 = .ok (.iload 4, 2) := by decide +kernel
theorem dX5_wire_44 : decode cX5_wire 44 = .ok (.invokestatic 78, 3) := by decide +kernel
theorem dX5_wire_47 : decode cX5_wire 47 = .ok (.istore 7, 2) := by decide +kernel
theorem dX5_wire_49 : decode cX5_wire 49 = .ok (.aload_n 0, 1) := by decide +kernel
theorem dX5_wire_50 : decode cX5_wire 50 = .ok (.getfield 12, 3) := by decide +kernel
theorem dX5_wire_53 : decode cX5_wire 53 = .ok (.iload 6, 2) := by decide +kernel
theorem dX5_wire_55 : decode cX5_wire 55 = .ok (.invokevirtual 82, 3) := by decide +kernel
theorem dX5_wire_58 : decode cX5_wire 58 = .ok (.ifCond .eq 15, 3) := by decide +kernel
theorem dX5_wire_61 : decode cX5_wire 61 = .ok (.aload_n 0, 1) := by decide +kernel
theorem dX5_wire_62 : decode cX5_wire 62 = .ok (.getfield 12, 3) := by decide +kernel
theorem dX5_wire_65 : decode cX5_wire 65 = .ok (.iload 7, 2) := by decide +kernel
theorem dX5_wire_67 : decode cX5_wire 67 = .ok (.invokevirtual 82, 3) := by decide +kernel
theorem dX5_wire_70 : decode cX5_wire 70 = .ok (.ifCond .ne 13, 3) := by decide +kernel
theorem dX5_wire_73 : decode cX5_wire 73 = .ok (.new 86, 3) := by decide +kernel
theorem dX5_wire_76 : decode cX5_wire 76 = .ok (.dup, 1) := by decide +kernel
theorem dX5_wire_77 : decode cX5_wire 77 = .ok (.ldc 88, 2) := by decide +kernel
theorem dX5_wire_79 : decode cX5_wire 79 = .ok (.invokespecial 90, 3) := by decide +kernel
theorem dX5_wire_82 : decode cX5_wire 82 = .ok (.athrow, 1) := by decide +kernel
theorem dX5_wire_83 : decode cX5_wire 83 = .ok (.aload_n 0, 1) := by decide +kernel
theorem dX5_wire_84 : decode cX5_wire 84 = .ok (.getfield 12, 3) := by decide +kernel
theorem dX5_wire_87 : decode cX5_wire 87 = .ok (.iload 6, 2) := by decide +kernel
theorem dX5_wire_89 : decode cX5_wire 89 = .ok (.iload 7, 2) := by decide +kernel
theorem dX5_wire_91 : decode cX5_wire 91 = .ok (.iload 5, 2) := by decide +kernel
theorem dX5_wire_93 : decode cX5_wire 93 = .ok (.invokevirtual 91, 3) := by decide +kernel
theorem dX5_wire_96 : decode cX5_wire 96 = .ok (.aload_n 0, 1) := by decide +kernel
theorem dX5_wire_97 : decode cX5_wire 97 = .ok (.getfield 12, 3) := by decide +kernel
theorem dX5_wire_100 : decode cX5_wire 100 = .ok (.getfield 94, 3) := by decide +kernel
theorem dX5_wire_103 : decode cX5_wire 103 = .ok (.ireturn, 1) := by decide +kernel
set_option maxRecDepth 20000 in
theorem ggX5_free_X5_needPort : GoodIn wsX5_free wsX5_needPort := goodIn_ca (goodIn_r _ [8, 9, 10, 11, 12, 7, 13] (by decide +kernel) (by decide +kernel)) (goodIn_sub (fun _ h => List.mem_cons_of_mem _ (List.mem_append_right _ h)) (by decide +kernel))
set_option maxRecDepth 20000 in
theorem gX5_free_X5_needPort : GoodIn wsX5_free (va_wsS RX5 63 yX5_needPort wsX5_needPort) := goodIn_app (goodIn_of _ (by decide +kernel)) ggX5_free_X5_needPort
set_option maxRecDepth 20000 in
theorem ggX5_free_X5_spotOf : GoodIn wsX5_free wsX5_spotOf := goodIn_r _ [16] (by decide +kernel) (by decide +kernel)
set_option maxRecDepth 20000 in
theorem gX5_free_X5_spotOf : GoodIn wsX5_free (va_wsS RX5 78 yX5_spotOf wsX5_spotOf) := goodIn_app (goodIn_of _ (by decide +kernel)) ggX5_free_X5_spotOf
set_option maxRecDepth 20000 in
theorem ggX5_free_X4_isBare : GoodIn wsX5_free wsX4_isBare := goodIn_r _ [21, 22, 23, 70, 71, 72, 73, 74, 75, 76, 77] (by decide +kernel) (by decide +kernel)
set_option maxRecDepth 20000 in
theorem gX5_free_X4_isBare : GoodIn wsX5_free (wsV RX5 82 RX4 yX4_isBare wsX4_isBare) := goodIn_app (goodIn_of _ (by decide +kernel)) ggX5_free_X4_isBare
set_option maxRecDepth 20000 in
theorem ggX5_free_X5_dropUse : GoodIn wsX5_free wsX5_dropUse := goodIn_r _ [27, 28, 29, 30, 31, 32, 33, 34, 35, 36, 37, 38, 39, 40, 41, 42, 43, 44, 45, 46, 47, 48, 60, 61, 62, 63, 64, 65, 66, 67, 68, 69, 78, 79, 80, 81, 82, 83, 84, 85, 86, 87, 88, 89, 90, 91, 92, 93, 94, 95, 96] (by decide +kernel) (by decide +kernel)
set_option maxRecDepth 20000 in
theorem gX5_free_X5_dropUse : GoodIn wsX5_free (wsV RX5 102 RX5 yX5_dropUse wsX5_dropUse) := goodIn_app (goodIn_of _ (by decide +kernel)) ggX5_free_X5_dropUse
set_option maxRecDepth 20000 in
theorem ggX5_free_X4_takeHouse : GoodIn wsX5_free wsX4_takeHouse := goodIn_r _ [52, 23, 53, 54, 70, 71, 72, 73, 74, 75, 76, 77] (by decide +kernel) (by decide +kernel)
set_option maxRecDepth 20000 in
theorem gX5_free_X4_takeHouse : GoodIn wsX5_free (wsV RX5 106 RX4 yX4_takeHouse wsX4_takeHouse) := goodIn_app (goodIn_of _ (by decide +kernel)) ggX5_free_X4_takeHouse
set_option maxRecDepth 20000 in
theorem ggX5_free_X4_takeWire : GoodIn wsX5_free wsX4_takeWire := goodIn_r _ [58, 22, 59, 70, 71, 72, 73, 74, 75, 76, 77] (by decide +kernel) (by decide +kernel)
set_option maxRecDepth 20000 in
theorem gX5_free_X4_takeWire : GoodIn wsX5_free (wsV RX5 110 RX4 yX4_takeWire wsX4_takeWire) := goodIn_app (goodIn_of _ (by decide +kernel)) ggX5_free_X4_takeWire
theorem dX5_free_0 : decode cX5_free 0 = .ok (.iload_n 1, 1) := by decide +kernel
theorem dX5_free_1 : decode cX5_free 1 = .ok (.iload_n 2, 1) := by decide +kernel
theorem dX5_free_2 : decode cX5_free 2 = .ok (.invokestatic 63, 3) := by decide +kernel
theorem dX5_free_5 : decode cX5_free 5 = .ok (.iload_n 1, 1) := by decide +kernel
theorem dX5_free_6 : decode cX5_free 6 = .ok (.iload_n 2, 1) := by decide +kernel
theorem dX5_free_7 : decode cX5_free 7 = .ok (.invokestatic 78, 3) := by decide +kernel
theorem dX5_free_10 : decode cX5_free 10 = .ok (.istore_n 3, 1) := by decide +kernel
theorem dX5_free_11 : decode cX5_free 11 = .ok (.aload_n 0, 1) := by decide +kernel
theorem dX5_free_12 : decode cX5_free 12 = .ok (.getfield 12, 3) := by decide +kernel
theorem dX5_free_15 : decode cX5_free 15 = .ok (.iload_n 3, 1) := by decide +kernel
theorem dX5_free_16 : decode cX5_free 16 = .ok (.invokevirtual 82, 3) := by decide +kernel
theorem dX5_free_19 : decode cX5_free 19 = .ok (.ifCond .eq 13, 3) := by decide +kernel
theorem dX5_free_22 : decode cX5_free 22 = .ok (.new 86, 3) := by decide +kernel
theorem dX5_free_25 : decode cX5_free 25 = .ok (.dup, 1) := by decide +kernel
theorem dX5_free_26 : decode cX5_free 26 = .ok (.ldc 97, 2) := by decide +kernel
theorem dX5_free_28 : decode cX5_free 28 = .ok (.invokespecial 90, 3) := by decide +kernel
theorem dX5_free_31 : decode cX5_free 31 = .ok (.athrow, 1) := by decide +kernel
theorem dX5_free_32 : decode cX5_free 32 = .ok (.aload_n 0, 1) := by decide +kernel
theorem dX5_free_33 : decode cX5_free 33 = .ok (.getfield 12, 3) := by decide +kernel
theorem dX5_free_36 : decode cX5_free 36 = .ok (.getfield 99, 3) := by decide +kernel
theorem dX5_free_39 : decode cX5_free 39 = .ok (.iload_n 3, 1) := by decide +kernel
theorem dX5_free_40 : decode cX5_free 40 = .ok (.iaload, 1) := by decide +kernel
theorem dX5_free_41 : decode cX5_free 41 = .ok (.istore 4, 2) := by decide +kernel
theorem dX5_free_43 : decode cX5_free 43 = .ok (.iload 4, 2) := by decide +kernel
theorem dX5_free_45 : decode cX5_free 45 = .ok (.iconst (-1), 1) := by decide +kernel
theorem dX5_free_46 : decode cX5_free 46 = .ok (.if_icmp .ne 17, 3) := by decide +kernel
theorem dX5_free_49 : decode cX5_free 49 = .ok (.aload_n 0, 1) := by decide +kernel
theorem dX5_free_50 : decode cX5_free 50 = .ok (.iload_n 3, 1) := by decide +kernel
theorem dX5_free_51 : decode cX5_free 51 = .ok (.invokevirtual 102, 3) := by decide +kernel
theorem dX5_free_54 : decode cX5_free 54 = .ok (.aload_n 0, 1) := by decide +kernel
theorem dX5_free_55 : decode cX5_free 55 = .ok (.getfield 12, 3) := by decide +kernel
theorem dX5_free_58 : decode cX5_free 58 = .ok (.iload_n 3, 1) := by decide +kernel
theorem dX5_free_59 : decode cX5_free 59 = .ok (.invokevirtual 106, 3) := by decide +kernel
theorem dX5_free_62 : decode cX5_free 62 = .ok (.ireturn, 1) := by decide +kernel
theorem dX5_free_63 : decode cX5_free 63 = .ok (.aload_n 0, 1) := by decide +kernel
theorem dX5_free_64 : decode cX5_free 64 = .ok (.iload_n 3, 1) := by decide +kernel
theorem dX5_free_65 : decode cX5_free 65 = .ok (.invokevirtual 102, 3) := by decide +kernel
theorem dX5_free_68 : decode cX5_free 68 = .ok (.aload_n 0, 1) := by decide +kernel
theorem dX5_free_69 : decode cX5_free 69 = .ok (.iload 4, 2) := by decide +kernel
theorem dX5_free_71 : decode cX5_free 71 = .ok (.invokevirtual 102, 3) := by decide +kernel
theorem dX5_free_74 : decode cX5_free 74 = .ok (.aload_n 0, 1) := by decide +kernel
theorem dX5_free_75 : decode cX5_free 75 = .ok (.getfield 12, 3) := by decide +kernel
theorem dX5_free_78 : decode cX5_free 78 = .ok (.iload_n 3, 1) := by decide +kernel
theorem dX5_free_79 : decode cX5_free 79 = .ok (.iload 4, 2) := by decide +kernel
theorem dX5_free_81 : decode cX5_free 81 = .ok (.invokevirtual 110, 3) := by decide +kernel
theorem dX5_free_84 : decode cX5_free 84 = .ok (.iconst (-1), 1) := by decide +kernel
theorem dX5_free_85 : decode cX5_free 85 = .ok (.ireturn, 1) := by decide +kernel
set_option maxRecDepth 20000 in
theorem ggX5_house_X5_needPort : GoodIn wsX5_house wsX5_needPort := goodIn_ca (goodIn_r _ [10, 11, 12, 13, 14, 9, 15] (by decide +kernel) (by decide +kernel)) (goodIn_sub (fun _ h => List.mem_cons_of_mem _ (List.mem_append_right _ h)) (by decide +kernel))
set_option maxRecDepth 20000 in
theorem gX5_house_X5_needPort : GoodIn wsX5_house (va_wsS RX5 63 yX5_needPort wsX5_needPort) := goodIn_app (goodIn_of _ (by decide +kernel)) ggX5_house_X5_needPort
set_option maxRecDepth 20000 in
theorem ggX5_house_X5_needHouse : GoodIn wsX5_house wsX5_needHouse := goodIn_ca (goodIn_r _ [18, 11, 12] (by decide +kernel) (by decide +kernel)) (goodIn_sub (fun _ h => List.mem_cons_of_mem _ (List.mem_append_right _ h)) (by decide +kernel))
set_option maxRecDepth 20000 in
theorem gX5_house_X5_needHouse : GoodIn wsX5_house (va_wsS RX5 113 yX5_needHouse wsX5_needHouse) := goodIn_app (goodIn_of _ (by decide +kernel)) ggX5_house_X5_needHouse
set_option maxRecDepth 20000 in
theorem ggX5_house_X5_spotOf : GoodIn wsX5_house wsX5_spotOf := goodIn_r _ [21] (by decide +kernel) (by decide +kernel)
set_option maxRecDepth 20000 in
theorem gX5_house_X5_spotOf : GoodIn wsX5_house (va_wsS RX5 78 yX5_spotOf wsX5_spotOf) := goodIn_app (goodIn_of _ (by decide +kernel)) ggX5_house_X5_spotOf
set_option maxRecDepth 20000 in
theorem ggX5_house_X4_isBare : GoodIn wsX5_house wsX4_isBare := goodIn_r _ [26, 27, 28, 58, 59, 60, 61, 62, 63, 64, 65] (by decide +kernel) (by decide +kernel)
set_option maxRecDepth 20000 in
theorem gX5_house_X4_isBare : GoodIn wsX5_house (wsV RX5 82 RX4 yX4_isBare wsX4_isBare) := goodIn_app (goodIn_of _ (by decide +kernel)) ggX5_house_X4_isBare
set_option maxRecDepth 20000 in
theorem ggX5_house_X4_putHouse : GoodIn wsX5_house wsX4_putHouse := goodIn_r _ [32, 28, 33, 34, 58, 59, 60, 61, 62, 63, 64, 65] (by decide +kernel) (by decide +kernel)
set_option maxRecDepth 20000 in
theorem gX5_house_X4_putHouse : GoodIn wsX5_house (wsV RX5 121 RX4 yX4_putHouse wsX4_putHouse) := goodIn_app (goodIn_of _ (by decide +kernel)) ggX5_house_X4_putHouse
set_option maxRecDepth 20000 in
theorem ggX5_house_X3_openForHouse : GoodIn wsX5_house wsX3_openForHouse := goodIn_r _ [39, 40, 41, 42, 43, 44, 45, 38, 46, 47, 66, 67, 68, 69, 70, 71, 72, 73, 74, 75, 76, 77, 78, 79, 80, 81, 58, 59, 60, 61, 62, 63, 64, 65] (by decide +kernel) (by decide +kernel)
set_option maxRecDepth 20000 in
theorem gX5_house_X3_openForHouse : GoodIn wsX5_house (wsV RX5 124 RX3 yX3_openForHouse wsX3_openForHouse) := goodIn_app (goodIn_of _ (by decide +kernel)) ggX5_house_X3_openForHouse
theorem dX5_house_0 : decode cX5_house 0 = .ok (.iload_n 1, 1) := by decide +kernel
theorem dX5_house_1 : decode cX5_house 1 = .ok (.iload_n 2, 1) := by decide +kernel
theorem dX5_house_2 : decode cX5_house 2 = .ok (.invokestatic 63, 3) := by decide +kernel
theorem dX5_house_5 : decode cX5_house 5 = .ok (.iload_n 3, 1) := by decide +kernel
theorem dX5_house_6 : decode cX5_house 6 = .ok (.invokestatic 113, 3) := by decide +kernel
theorem dX5_house_9 : decode cX5_house 9 = .ok (.iload_n 1, 1) := by decide +kernel
theorem dX5_house_10 : decode cX5_house 10 = .ok (.iload_n 2, 1) := by decide +kernel
theorem dX5_house_11 : decode cX5_house 11 = .ok (.invokestatic 78, 3) := by decide +kernel
theorem dX5_house_14 : decode cX5_house 14 = .ok (.istore 4, 2) := by decide +kernel
theorem dX5_house_16 : decode cX5_house 16 = .ok (.aload_n 0, 1) := by decide +kernel
theorem dX5_house_17 : decode cX5_house 17 = .ok (.getfield 12, 3) := by decide +kernel
theorem dX5_house_20 : decode cX5_house 20 = .ok (.iload 4, 2) := by decide +kernel
theorem dX5_house_22 : decode cX5_house 22 = .ok (.invokevirtual 82, 3) := by decide +kernel
theorem dX5_house_25 : decode cX5_house 25 = .ok (.ifCond .eq 16, 3) := by decide +kernel
theorem dX5_house_28 : decode cX5_house 28 = .ok (.aload_n 0, 1) := by decide +kernel
theorem dX5_house_29 : decode cX5_house 29 = .ok (.getfield 12, 3) := by decide +kernel
theorem dX5_house_32 : decode cX5_house 32 = .ok (.getfield 116, 3) := by decide +kernel
theorem dX5_house_35 : decode cX5_house 35 = .ok (.iload_n 3, 1) := by decide +kernel
theorem dX5_house_36 : decode cX5_house 36 = .ok (.iaload, 1) := by decide +kernel
theorem dX5_house_37 : decode cX5_house 37 = .ok (.iconst (-1), 1) := by decide +kernel
theorem dX5_house_38 : decode cX5_house 38 = .ok (.if_icmp .eq 13, 3) := by decide +kernel
theorem dX5_house_41 : decode cX5_house 41 = .ok (.new 86, 3) := by decide +kernel
theorem dX5_house_44 : decode cX5_house 44 = .ok (.dup, 1) := by decide +kernel
theorem dX5_house_45 : decode cX5_house 45 = .ok (.ldc 119, 2) := by decide +kernel
theorem dX5_house_47 : decode cX5_house 47 = .ok (.invokespecial 90, 3) := by decide +kernel
theorem dX5_house_50 : decode cX5_house 50 = .ok (.athrow, 1) := by decide +kernel
theorem dX5_house_51 : decode cX5_house 51 = .ok (.aload_n 0, 1) := by decide +kernel
theorem dX5_house_52 : decode cX5_house 52 = .ok (.getfield 12, 3) := by decide +kernel
theorem dX5_house_55 : decode cX5_house 55 = .ok (.iload 4, 2) := by decide +kernel
theorem dX5_house_57 : decode cX5_house 57 = .ok (.iload_n 3, 1) := by decide +kernel
theorem dX5_house_58 : decode cX5_house 58 = .ok (.invokevirtual 121, 3) := by decide +kernel
theorem dX5_house_61 : decode cX5_house 61 = .ok (.aload_n 0, 1) := by decide +kernel
theorem dX5_house_62 : decode cX5_house 62 = .ok (.getfield 21, 3) := by decide +kernel
theorem dX5_house_65 : decode cX5_house 65 = .ok (.iload 4, 2) := by decide +kernel
theorem dX5_house_67 : decode cX5_house 67 = .ok (.invokevirtual 124, 3) := by decide +kernel
theorem dX5_house_70 : decode cX5_house 70 = .ok (.aload_n 0, 1) := by decide +kernel
theorem dX5_house_71 : decode cX5_house 71 = .ok (.getfield 12, 3) := by decide +kernel
theorem dX5_house_74 : decode cX5_house 74 = .ok (.getfield 127, 3) := by decide +kernel
theorem dX5_house_77 : decode cX5_house 77 = .ok (.ireturn, 1) := by decide +kernel
set_option maxRecDepth 20000 in
theorem ggX5_rank_X5_needSwitch : GoodIn wsX5_rank wsX5_needSwitch := goodIn_ca (goodIn_r _ [6, 7, 8] (by decide +kernel) (by decide +kernel)) (goodIn_sub (fun _ h => List.mem_cons_of_mem _ (List.mem_append_left _ (List.mem_append_right _ h))) (by decide +kernel))
set_option maxRecDepth 20000 in
theorem gX5_rank_X5_needSwitch : GoodIn wsX5_rank (va_wsS RX5 130 yX5_needSwitch wsX5_needSwitch) := goodIn_app (goodIn_of _ (by decide +kernel)) ggX5_rank_X5_needSwitch
set_option maxRecDepth 20000 in
theorem ggX5_rank_X5_needWithin : GoodIn wsX5_rank wsX5_needWithin := goodIn_ca (goodIn_r _ [11, 12, 13] (by decide +kernel) (by decide +kernel)) (goodIn_sub (fun _ h => List.mem_cons_of_mem _ (List.mem_append_right _ h)) (by decide +kernel))
set_option maxRecDepth 20000 in
theorem gX5_rank_X5_needWithin : GoodIn wsX5_rank (va_wsS RX5 74 yX5_needWithin wsX5_needWithin) := goodIn_app (goodIn_of _ (by decide +kernel)) ggX5_rank_X5_needWithin
theorem dX5_rank_0 : decode cX5_rank 0 = .ok (.iload_n 1, 1) := by decide +kernel
theorem dX5_rank_1 : decode cX5_rank 1 = .ok (.invokestatic 130, 3) := by decide +kernel
theorem dX5_rank_4 : decode cX5_rank 4 = .ok (.iload_n 2, 1) := by decide +kernel
theorem dX5_rank_5 : decode cX5_rank 5 = .ok (.iconst 0, 1) := by decide +kernel
theorem dX5_rank_6 : decode cX5_rank 6 = .ok (.bipush 15, 2) := by decide +kernel
theorem dX5_rank_8 : decode cX5_rank 8 = .ok (.invokestatic 74, 3) := by decide +kernel
theorem dX5_rank_11 : decode cX5_rank 11 = .ok (.aload_n 0, 1) := by decide +kernel
theorem dX5_rank_12 : decode cX5_rank 12 = .ok (.getfield 12, 3) := by decide +kernel
theorem dX5_rank_15 : decode cX5_rank 15 = .ok (.getfield 133, 3) := by decide +kernel
theorem dX5_rank_18 : decode cX5_rank 18 = .ok (.iload_n 1, 1) := by decide +kernel
theorem dX5_rank_19 : decode cX5_rank 19 = .ok (.iaload, 1) := by decide +kernel
theorem dX5_rank_20 : decode cX5_rank 20 = .ok (.istore_n 3, 1) := by decide +kernel
theorem dX5_rank_21 : decode cX5_rank 21 = .ok (.aload_n 0, 1) := by decide +kernel
theorem dX5_rank_22 : decode cX5_rank 22 = .ok (.getfield 12, 3) := by decide +kernel
theorem dX5_rank_25 : decode cX5_rank 25 = .ok (.getfield 133, 3) := by decide +kernel
theorem dX5_rank_28 : decode cX5_rank 28 = .ok (.iload_n 1, 1) := by decide +kernel
theorem dX5_rank_29 : decode cX5_rank 29 = .ok (.iload_n 2, 1) := by decide +kernel
theorem dX5_rank_30 : decode cX5_rank 30 = .ok (.iastore, 1) := by decide +kernel
theorem dX5_rank_31 : decode cX5_rank 31 = .ok (.iload_n 3, 1) := by decide +kernel
theorem dX5_rank_32 : decode cX5_rank 32 = .ok (.ireturn, 1) := by decide +kernel
set_option maxRecDepth 20000 in
theorem ggX5_shut_X5_needPort : GoodIn wsX5_shut wsX5_needPort := goodIn_ca (goodIn_r _ [5, 6, 7, 8, 9, 4, 10] (by decide +kernel) (by decide +kernel)) (goodIn_sub (fun _ h => List.mem_cons_of_mem _ (List.mem_append_right _ h)) (by decide +kernel))
set_option maxRecDepth 20000 in
theorem gX5_shut_X5_needPort : GoodIn wsX5_shut (va_wsS RX5 63 yX5_needPort wsX5_needPort) := goodIn_app (goodIn_of _ (by decide +kernel)) ggX5_shut_X5_needPort
set_option maxRecDepth 20000 in
theorem ggX5_shut_X5_spotOf : GoodIn wsX5_shut wsX5_spotOf := goodIn_r _ [13] (by decide +kernel) (by decide +kernel)
set_option maxRecDepth 20000 in
theorem gX5_shut_X5_spotOf : GoodIn wsX5_shut (va_wsS RX5 78 yX5_spotOf wsX5_spotOf) := goodIn_app (goodIn_of _ (by decide +kernel)) ggX5_shut_X5_spotOf
set_option maxRecDepth 20000 in
theorem ggX5_shut_X3_isShut : GoodIn wsX5_shut wsX3_isShut := goodIn_r _ [18, 19, 68, 69, 70, 71, 72, 73, 74, 75, 76, 77, 78, 79, 80, 81, 82, 83] (by decide +kernel) (by decide +kernel)
set_option maxRecDepth 20000 in
theorem gX5_shut_X3_isShut : GoodIn wsX5_shut (wsV RX5 136 RX3 yX3_isShut wsX3_isShut) := goodIn_app (goodIn_of _ (by decide +kernel)) ggX5_shut_X3_isShut
set_option maxRecDepth 20000 in
theorem ggX5_shut_X3_endShut : GoodIn wsX5_shut wsX3_endShut := goodIn_r _ [23, 19, 24, 25, 26, 17, 27, 28, 29, 30, 31, 15, 16, 18, 68, 69, 70, 71, 72, 73, 74, 75, 76, 77, 78, 79, 80, 81, 82, 83, 84, 85, 86, 87, 88, 89, 90, 91] (by decide +kernel) (by decide +kernel)
set_option maxRecDepth 20000 in
theorem gX5_shut_X3_endShut : GoodIn wsX5_shut (wsV RX5 139 RX3 yX3_endShut wsX3_endShut) := goodIn_app (goodIn_of _ (by decide +kernel)) ggX5_shut_X3_endShut
set_option maxRecDepth 20000 in
theorem ggX5_shut_X5_shutUntil : GoodIn wsX5_shut wsX5_shutUntil := goodIn_r _ [35, 1, 36, 37, 38, 39, 17, 40, 19, 41, 42, 43, 44, 28, 45, 46, 47, 48, 49, 50, 51, 52, 53, 54, 55, 56, 57, 58, 59, 60, 61, 62, 63, 64, 65, 66, 67, 68, 69, 70, 71, 72, 73, 74, 75, 76, 77, 78, 79, 80, 81, 82, 83, 92, 93, 94] (by decide +kernel) (by decide +kernel)
set_option maxRecDepth 20000 in
theorem gX5_shut_X5_shutUntil : GoodIn wsX5_shut (wsV RX5 142 RX5 yX5_shutUntil wsX5_shutUntil) := goodIn_app (goodIn_of _ (by decide +kernel)) ggX5_shut_X5_shutUntil
theorem dX5_shut_0 : decode cX5_shut 0 = .ok (.iload_n 1, 1) := by decide +kernel
theorem dX5_shut_1 : decode cX5_shut 1 = .ok (.iload_n 2, 1) := by decide +kernel
theorem dX5_shut_2 : decode cX5_shut 2 = .ok (.invokestatic 63, 3) := by decide +kernel
theorem dX5_shut_5 : decode cX5_shut 5 = .ok (.iload_n 1, 1) := by decide +kernel
theorem dX5_shut_6 : decode cX5_shut 6 = .ok (.iload_n 2, 1) := by decide +kernel
theorem dX5_shut_7 : decode cX5_shut 7 = .ok (.invokestatic 78, 3) := by decide +kernel
theorem dX5_shut_10 : decode cX5_shut 10 = .ok (.istore_n 3, 1) := by decide +kernel
theorem dX5_shut_11 : decode cX5_shut 11 = .ok (.aload_n 0, 1) := by decide +kernel
theorem dX5_shut_12 : decode cX5_shut 12 = .ok (.getfield 21, 3) := by decide +kernel
theorem dX5_shut_15 : decode cX5_shut 15 = .ok (.iload_n 3, 1) := by decide +kernel
theorem dX5_shut_16 : decode cX5_shut 16 = .ok (.invokevirtual 136, 3) := by decide +kernel
theorem dX5_shut_19 : decode cX5_shut 19 = .ok (.ifCond .eq 13, 3) := by decide +kernel
theorem dX5_shut_22 : decode cX5_shut 22 = .ok (.aload_n 0, 1) := by decide +kernel
theorem dX5_shut_23 : decode cX5_shut 23 = .ok (.getfield 21, 3) := by decide +kernel
theorem dX5_shut_26 : decode cX5_shut 26 = .ok (.iload_n 3, 1) := by decide +kernel
theorem dX5_shut_27 : decode cX5_shut 27 = .ok (.invokevirtual 139, 3) := by decide +kernel
theorem dX5_shut_30 : decode cX5_shut 30 = .ok (.iconst 0, 1) := by decide +kernel
theorem dX5_shut_31 : decode cX5_shut 31 = .ok (.ireturn, 1) := by decide +kernel
theorem dX5_shut_32 : decode cX5_shut 32 = .ok (.aload_n 0, 1) := by decide +kernel
theorem dX5_shut_33 : decode cX5_shut 33 = .ok (.iload_n 3, 1) := by decide +kernel
theorem dX5_shut_34 : decode cX5_shut 34 = .ok (.iconst (-1), 1) := by decide +kernel
theorem dX5_shut_35 : decode cX5_shut 35 = .ok (.invokevirtual 142, 3) := by decide +kernel
theorem dX5_shut_38 : decode cX5_shut 38 = .ok (.iconst 1, 1) := by decide +kernel
theorem dX5_shut_39 : decode cX5_shut 39 = .ok (.ireturn, 1) := by decide +kernel
set_option maxRecDepth 20000 in
theorem ggX5_guard_X5_needPort : GoodIn wsX5_guard wsX5_needPort := goodIn_ca (goodIn_r _ [6, 7, 8, 9, 10, 5, 11] (by decide +kernel) (by decide +kernel)) (goodIn_sub (fun _ h => List.mem_cons_of_mem _ (List.mem_append_left _ (List.mem_append_right _ h))) (by decide +kernel))
set_option maxRecDepth 20000 in
theorem gX5_guard_X5_needPort : GoodIn wsX5_guard (va_wsS RX5 63 yX5_needPort wsX5_needPort) := goodIn_app (goodIn_of _ (by decide +kernel)) ggX5_guard_X5_needPort
set_option maxRecDepth 20000 in
theorem ggX5_guard_X5_needWithin : GoodIn wsX5_guard wsX5_needWithin := goodIn_ca (goodIn_r _ [14, 15, 16] (by decide +kernel) (by decide +kernel)) (goodIn_sub (fun _ h => List.mem_cons_of_mem _ (List.mem_append_right _ h)) (by decide +kernel))
set_option maxRecDepth 20000 in
theorem gX5_guard_X5_needWithin : GoodIn wsX5_guard (va_wsS RX5 74 yX5_needWithin wsX5_needWithin) := goodIn_app (goodIn_of _ (by decide +kernel)) ggX5_guard_X5_needWithin
set_option maxRecDepth 20000 in
theorem ggX5_guard_X5_spotOf : GoodIn wsX5_guard wsX5_spotOf := goodIn_r _ [19] (by decide +kernel) (by decide +kernel)
set_option maxRecDepth 20000 in
theorem gX5_guard_X5_spotOf : GoodIn wsX5_guard (va_wsS RX5 78 yX5_spotOf wsX5_spotOf) := goodIn_app (goodIn_of _ (by decide +kernel)) ggX5_guard_X5_spotOf
theorem dX5_guard_0 : decode cX5_guard 0 = .ok (.iload_n 1, 1) := by decide +kernel
theorem dX5_guard_1 : decode cX5_guard 1 = .ok (.iload_n 2, 1) := by decide +kernel
theorem dX5_guard_2 : decode cX5_guard 2 = .ok (.invokestatic 63, 3) := by decide +kernel
theorem dX5_guard_5 : decode cX5_guard 5 = .ok (.iload_n 3, 1) := by decide +kernel
theorem dX5_guard_6 : decode cX5_guard 6 = .ok (.iconst 0, 1) := by decide +kernel
end
section
theorem dX5_guard_7 : decode cX5_guard 7 = .ok (.iconst 2, 1) := by decide +kernel
theorem dX5_guard_8 : decode cX5_guard 8 = .ok (.invokestatic 74, 3) := by decide +kernel
theorem dX5_guard_11 : decode cX5_guard 11 = .ok (.iload_n 1, 1) := by decide +kernel
theorem dX5_guard_12 : decode cX5_guard 12 = .ok (.iload_n 2, 1) := by decide +kernel
theorem dX5_guard_13 : decode cX5_guard 13 = .ok (.invokestatic 78, 3) := by decide +kernel
theorem dX5_guard_16 : decode cX5_guard 16 = .ok (.istore 4, 2) := by decide +kernel
theorem dX5_guard_18 : decode cX5_guard 18 = .ok (.aload_n 0, 1) := by decide +kernel
theorem dX5_guard_19 : decode cX5_guard 19 = .ok (.getfield 12, 3) := by decide +kernel
theorem dX5_guard_22 : decode cX5_guard 22 = .ok (.getfield 145, 3) := by decide +kernel
theorem dX5_guard_25 : decode cX5_guard 25 = .ok (.iload 4, 2) := by decide +kernel
theorem dX5_guard_27 : decode cX5_guard 27 = .ok (.iaload, 1) := by decide +kernel
theorem dX5_guard_28 : decode cX5_guard 28 = .ok (.istore 5, 2) := by decide +kernel
theorem dX5_guard_30 : decode cX5_guard 30 = .ok (.aload_n 0, 1) := by decide +kernel
theorem dX5_guard_31 : decode cX5_guard 31 = .ok (.getfield 12, 3) := by decide +kernel
theorem dX5_guard_34 : decode cX5_guard 34 = .ok (.getfield 145, 3) := by decide +kernel
theorem dX5_guard_37 : decode cX5_guard 37 = .ok (.iload 4, 2) := by decide +kernel
theorem dX5_guard_39 : decode cX5_guard 39 = .ok (.iload_n 3, 1) := by decide +kernel
theorem dX5_guard_40 : decode cX5_guard 40 = .ok (.iastore, 1) := by decide +kernel
theorem dX5_guard_41 : decode cX5_guard 41 = .ok (.iload 5, 2) := by decide +kernel
theorem dX5_guard_43 : decode cX5_guard 43 = .ok (.ireturn, 1) := by decide +kernel
set_option maxRecDepth 20000 in
theorem ggX5_plain_X5_needPort : GoodIn wsX5_plain wsX5_needPort := goodIn_ca (goodIn_r _ [5, 6, 7, 8, 9, 4, 10] (by decide +kernel) (by decide +kernel)) (goodIn_sub (fun _ h => List.mem_cons_of_mem _ (List.mem_append_right _ h)) (by decide +kernel))
set_option maxRecDepth 20000 in
theorem gX5_plain_X5_needPort : GoodIn wsX5_plain (va_wsS RX5 63 yX5_needPort wsX5_needPort) := goodIn_app (goodIn_of _ (by decide +kernel)) ggX5_plain_X5_needPort
set_option maxRecDepth 20000 in
theorem ggX5_plain_X5_needLane : GoodIn wsX5_plain wsX5_needLane := goodIn_ca (goodIn_r _ [13, 6, 7] (by decide +kernel) (by decide +kernel)) (goodIn_sub (fun _ h => List.mem_cons_of_mem _ (List.mem_append_right _ h)) (by decide +kernel))
set_option maxRecDepth 20000 in
theorem gX5_plain_X5_needLane : GoodIn wsX5_plain (va_wsS RX5 148 yX5_needLane wsX5_needLane) := goodIn_app (goodIn_of _ (by decide +kernel)) ggX5_plain_X5_needLane
set_option maxRecDepth 20000 in
theorem ggX5_plain_X5_spotOf : GoodIn wsX5_plain wsX5_spotOf := goodIn_r _ [16] (by decide +kernel) (by decide +kernel)
set_option maxRecDepth 20000 in
theorem gX5_plain_X5_spotOf : GoodIn wsX5_plain (va_wsS RX5 78 yX5_spotOf wsX5_spotOf) := goodIn_app (goodIn_of _ (by decide +kernel)) ggX5_plain_X5_spotOf
set_option maxRecDepth 20000 in
theorem ggX5_plain_X0_bitOf : GoodIn wsX5_plain wsX0_bitOf := goodIn_r _ [20] (by decide +kernel) (by decide +kernel)
set_option maxRecDepth 20000 in
theorem gX5_plain_X0_bitOf : GoodIn wsX5_plain (va_wsS RX5 151 yX0_bitOf wsX0_bitOf) := goodIn_app (goodIn_of _ (by decide +kernel)) ggX5_plain_X0_bitOf
set_option maxRecDepth 20000 in
theorem ggX5_plain_X0_setUp : GoodIn wsX5_plain wsX0_setUp := goodIn_r _ [24, 25, 26, 37, 38] (by decide +kernel) (by decide +kernel)
set_option maxRecDepth 20000 in
theorem gX5_plain_X0_setUp : GoodIn wsX5_plain (wsV RX5 154 RX0 yX0_setUp wsX0_setUp) := goodIn_app (goodIn_of _ (by decide +kernel)) ggX5_plain_X0_setUp
theorem dX5_plain_0 : decode cX5_plain 0 = .ok (.iload_n 1, 1) := by decide +kernel
theorem dX5_plain_1 : decode cX5_plain 1 = .ok (.iload_n 2, 1) := by decide +kernel
theorem dX5_plain_2 : decode cX5_plain 2 = .ok (.invokestatic 63, 3) := by decide +kernel
theorem dX5_plain_5 : decode cX5_plain 5 = .ok (.iload_n 3, 1) := by decide +kernel
theorem dX5_plain_6 : decode cX5_plain 6 = .ok (.invokestatic 148, 3) := by decide +kernel
theorem dX5_plain_9 : decode cX5_plain 9 = .ok (.aload_n 0, 1) := by decide +kernel
theorem dX5_plain_10 : decode cX5_plain 10 = .ok (.getfield 31, 3) := by decide +kernel
theorem dX5_plain_13 : decode cX5_plain 13 = .ok (.iload_n 1, 1) := by decide +kernel
theorem dX5_plain_14 : decode cX5_plain 14 = .ok (.iload_n 2, 1) := by decide +kernel
theorem dX5_plain_15 : decode cX5_plain 15 = .ok (.invokestatic 78, 3) := by decide +kernel
theorem dX5_plain_18 : decode cX5_plain 18 = .ok (.iload_n 3, 1) := by decide +kernel
theorem dX5_plain_19 : decode cX5_plain 19 = .ok (.invokestatic 151, 3) := by decide +kernel
theorem dX5_plain_22 : decode cX5_plain 22 = .ok (.iload_n 3, 1) := by decide +kernel
theorem dX5_plain_23 : decode cX5_plain 23 = .ok (.invokevirtual 154, 3) := by decide +kernel
theorem dX5_plain_26 : decode cX5_plain 26 = .ok (.return_, 1) := by decide +kernel
set_option maxRecDepth 20000 in
theorem ggX5_trunk_X5_needPort : GoodIn wsX5_trunk wsX5_needPort := goodIn_ca (goodIn_r _ [5, 6, 7, 8, 9, 4, 10] (by decide +kernel) (by decide +kernel)) (goodIn_sub (fun _ h => List.mem_cons_of_mem _ (List.mem_append_left _ (List.mem_append_right _ h))) (by decide +kernel))
set_option maxRecDepth 20000 in
theorem gX5_trunk_X5_needPort : GoodIn wsX5_trunk (va_wsS RX5 63 yX5_needPort wsX5_needPort) := goodIn_app (goodIn_of _ (by decide +kernel)) ggX5_trunk_X5_needPort
set_option maxRecDepth 20000 in
theorem ggX5_trunk_X5_needLane : GoodIn wsX5_trunk wsX5_needLane := goodIn_ca (goodIn_r _ [13, 6, 7] (by decide +kernel) (by decide +kernel)) (goodIn_sub (fun _ h => List.mem_cons_of_mem _ (List.mem_append_left _ (List.mem_append_right _ h))) (by decide +kernel))
set_option maxRecDepth 20000 in
theorem gX5_trunk_X5_needLane : GoodIn wsX5_trunk (va_wsS RX5 148 yX5_needLane wsX5_needLane) := goodIn_app (goodIn_of _ (by decide +kernel)) ggX5_trunk_X5_needLane
set_option maxRecDepth 20000 in
theorem ggX5_trunk_X5_needWithin : GoodIn wsX5_trunk wsX5_needWithin := goodIn_ca (goodIn_r _ [16, 17, 18] (by decide +kernel) (by decide +kernel)) (goodIn_sub (fun _ h => List.mem_cons_of_mem _ (List.mem_append_right _ h)) (by decide +kernel))
set_option maxRecDepth 20000 in
theorem gX5_trunk_X5_needWithin : GoodIn wsX5_trunk (va_wsS RX5 74 yX5_needWithin wsX5_needWithin) := goodIn_app (goodIn_of _ (by decide +kernel)) ggX5_trunk_X5_needWithin
set_option maxRecDepth 20000 in
theorem ggX5_trunk_X5_spotOf : GoodIn wsX5_trunk wsX5_spotOf := goodIn_r _ [21] (by decide +kernel) (by decide +kernel)
set_option maxRecDepth 20000 in
theorem gX5_trunk_X5_spotOf : GoodIn wsX5_trunk (va_wsS RX5 78 yX5_spotOf wsX5_spotOf) := goodIn_app (goodIn_of _ (by decide +kernel)) ggX5_trunk_X5_spotOf
set_option maxRecDepth 20000 in
theorem ggX5_trunk_X0_setUp : GoodIn wsX5_trunk wsX0_setUp := goodIn_r _ [26, 27, 28, 39, 40] (by decide +kernel) (by decide +kernel)
set_option maxRecDepth 20000 in
theorem gX5_trunk_X0_setUp : GoodIn wsX5_trunk (wsV RX5 154 RX0 yX0_setUp wsX0_setUp) := goodIn_app (goodIn_of _ (by decide +kernel)) ggX5_trunk_X0_setUp
theorem dX5_trunk_0 : decode cX5_trunk 0 = .ok (.iload_n 1, 1) := by decide +kernel
theorem dX5_trunk_1 : decode cX5_trunk 1 = .ok (.iload_n 2, 1) := by decide +kernel
theorem dX5_trunk_2 : decode cX5_trunk 2 = .ok (.invokestatic 63, 3) := by decide +kernel
theorem dX5_trunk_5 : decode cX5_trunk 5 = .ok (.iload 4, 2) := by decide +kernel
theorem dX5_trunk_7 : decode cX5_trunk 7 = .ok (.invokestatic 148, 3) := by decide +kernel
theorem dX5_trunk_10 : decode cX5_trunk 10 = .ok (.iload_n 3, 1) := by decide +kernel
theorem dX5_trunk_11 : decode cX5_trunk 11 = .ok (.iconst 1, 1) := by decide +kernel
theorem dX5_trunk_12 : decode cX5_trunk 12 = .ok (.bipush 7, 2) := by decide +kernel
theorem dX5_trunk_14 : decode cX5_trunk 14 = .ok (.invokestatic 74, 3) := by decide +kernel
theorem dX5_trunk_17 : decode cX5_trunk 17 = .ok (.aload_n 0, 1) := by decide +kernel
theorem dX5_trunk_18 : decode cX5_trunk 18 = .ok (.getfield 31, 3) := by decide +kernel
theorem dX5_trunk_21 : decode cX5_trunk 21 = .ok (.iload_n 1, 1) := by decide +kernel
theorem dX5_trunk_22 : decode cX5_trunk 22 = .ok (.iload_n 2, 1) := by decide +kernel
theorem dX5_trunk_23 : decode cX5_trunk 23 = .ok (.invokestatic 78, 3) := by decide +kernel
theorem dX5_trunk_26 : decode cX5_trunk 26 = .ok (.iload_n 3, 1) := by decide +kernel
theorem dX5_trunk_27 : decode cX5_trunk 27 = .ok (.iload 4, 2) := by decide +kernel
theorem dX5_trunk_29 : decode cX5_trunk 29 = .ok (.invokevirtual 154, 3) := by decide +kernel
theorem dX5_trunk_32 : decode cX5_trunk 32 = .ok (.return_, 1) := by decide +kernel
set_option maxRecDepth 20000 in
theorem ggX5_limit_X5_needWithin : GoodIn wsX5_limit wsX5_needWithin := goodIn_ca (goodIn_r _ [5, 6, 7] (by decide +kernel) (by decide +kernel)) (goodIn_sub (fun _ h => List.mem_cons_of_mem _ (List.mem_append_right _ h)) (by decide +kernel))
set_option maxRecDepth 20000 in
theorem gX5_limit_X5_needWithin : GoodIn wsX5_limit (va_wsS RX5 74 yX5_needWithin wsX5_needWithin) := goodIn_app (goodIn_of _ (by decide +kernel)) ggX5_limit_X5_needWithin
theorem dX5_limit_0 : decode cX5_limit 0 = .ok (.iload_n 1, 1) := by decide +kernel
theorem dX5_limit_1 : decode cX5_limit 1 = .ok (.iconst 1, 1) := by decide +kernel
theorem dX5_limit_2 : decode cX5_limit 2 = .ok (.bipush 100, 2) := by decide +kernel
theorem dX5_limit_4 : decode cX5_limit 4 = .ok (.invokestatic 74, 3) := by decide +kernel
theorem dX5_limit_7 : decode cX5_limit 7 = .ok (.aload_n 0, 1) := by decide +kernel
theorem dX5_limit_8 : decode cX5_limit 8 = .ok (.getfield 59, 3) := by decide +kernel
theorem dX5_limit_11 : decode cX5_limit 11 = .ok (.istore_n 2, 1) := by decide +kernel
theorem dX5_limit_12 : decode cX5_limit 12 = .ok (.aload_n 0, 1) := by decide +kernel
theorem dX5_limit_13 : decode cX5_limit 13 = .ok (.iload_n 1, 1) := by decide +kernel
theorem dX5_limit_14 : decode cX5_limit 14 = .ok (.putfield 59, 3) := by decide +kernel
theorem dX5_limit_17 : decode cX5_limit 17 = .ok (.iload_n 2, 1) := by decide +kernel
theorem dX5_limit_18 : decode cX5_limit 18 = .ok (.ireturn, 1) := by decide +kernel
set_option maxRecDepth 20000 in
theorem ggX5_beat_X5_needWithin : GoodIn wsX5_beat wsX5_needWithin := goodIn_ca (goodIn_r _ [6, 7, 8] (by decide +kernel) (by decide +kernel)) (goodIn_sub (fun _ h => List.mem_cons_of_mem _ (List.mem_append_right _ h)) (by decide +kernel))
set_option maxRecDepth 20000 in
theorem gX5_beat_X5_needWithin : GoodIn wsX5_beat (va_wsS RX5 74 yX5_needWithin wsX5_needWithin) := goodIn_app (goodIn_of _ (by decide +kernel)) ggX5_beat_X5_needWithin
set_option maxRecDepth 20000 in
theorem ggX5_beat_X5_passBeat : GoodIn wsX5_beat wsX5_passBeat := goodIn_r _ [12, 1, 13, 14, 15, 16, 2, 17, 18, 19, 20, 21, 22, 23, 24, 25, 26, 27, 28, 29, 30, 31, 32, 33, 34, 35, 36, 37, 38, 39, 40, 41, 42, 43, 44, 45, 46, 47, 48, 49, 50, 51, 52, 53, 54, 55, 56, 57, 58, 59, 60, 61, 62, 63, 64, 65, 66, 67, 5, 68, 69, 70, 71, 72, 73, 74, 75, 76, 77, 78, 79, 80, 81, 82, 83, 84, 85, 86, 87, 88, 89, 90, 91, 92, 93, 94, 95, 96, 97, 98, 99, 100, 101, 102, 103, 104, 105, 106, 107, 108, 109, 110, 111, 112, 113, 114, 115, 116, 117, 118, 119, 120, 121, 122, 123, 124, 125, 126, 127, 128, 129, 130, 131, 132, 133, 134, 135, 136, 137, 138, 139, 140, 141, 142, 143, 144, 145, 146, 147, 148, 149, 150, 151, 152, 153, 154, 155, 156, 157, 158, 159, 160, 161, 162, 163, 164, 165, 166, 167, 168, 169, 170, 171, 172, 173] (by decide +kernel) (by decide +kernel)
set_option maxRecDepth 20000 in
theorem gX5_beat_X5_passBeat : GoodIn wsX5_beat (wsV RX5 157 RX5 yX5_passBeat wsX5_passBeat) := goodIn_app (goodIn_of _ (by decide +kernel)) ggX5_beat_X5_passBeat
theorem dX5_beat_0 : decode cX5_beat 0 = .ok (.iload_n 1, 1) := by decide +kernel
theorem dX5_beat_1 : decode cX5_beat 1 = .ok (.iconst 1, 1) := by decide +kernel
theorem dX5_beat_2 : decode cX5_beat 2 = .ok (.bipush 30, 2) := by decide +kernel
theorem dX5_beat_4 : decode cX5_beat 4 = .ok (.invokestatic 74, 3) := by decide +kernel
theorem dX5_beat_7 : decode cX5_beat 7 = .ok (.iconst 0, 1) := by decide +kernel
theorem dX5_beat_8 : decode cX5_beat 8 = .ok (.istore_n 2, 1) := by decide +kernel
theorem dX5_beat_9 : decode cX5_beat 9 = .ok (.iload_n 2, 1) := by decide +kernel
theorem dX5_beat_10 : decode cX5_beat 10 = .ok (.iload_n 1, 1) := by decide +kernel
theorem dX5_beat_11 : decode cX5_beat 11 = .ok (.if_icmp .ge 13, 3) := by decide +kernel
theorem dX5_beat_14 : decode cX5_beat 14 = .ok (.aload_n 0, 1) := by decide +kernel
theorem dX5_beat_15 : decode cX5_beat 15 = .ok (.invokevirtual 157, 3) := by decide +kernel
theorem dX5_beat_18 : decode cX5_beat 18 = .ok (.iinc 2 1, 3) := by decide +kernel
theorem dX5_beat_21 : decode cX5_beat 21 = .ok (.goto (-12), 3) := by decide +kernel
theorem dX5_beat_24 : decode cX5_beat 24 = .ok (.aload_n 0, 1) := by decide +kernel
theorem dX5_beat_25 : decode cX5_beat 25 = .ok (.getfield 21, 3) := by decide +kernel
theorem dX5_beat_28 : decode cX5_beat 28 = .ok (.getfield 160, 3) := by decide +kernel
theorem dX5_beat_31 : decode cX5_beat 31 = .ok (.ireturn, 1) := by decide +kernel
set_option maxRecDepth 20000 in
theorem ggX5_send_X5_needHouse : GoodIn wsX5_send wsX5_needHouse := goodIn_ca (goodIn_r _ [12, 13, 14] (by decide +kernel) (by decide +kernel)) (goodIn_sub (fun _ h => List.mem_cons_of_mem _ (List.mem_append_right _ h)) (by decide +kernel))
set_option maxRecDepth 20000 in
theorem gX5_send_X5_needHouse : GoodIn wsX5_send (va_wsS RX5 113 yX5_needHouse wsX5_needHouse) := goodIn_app (goodIn_of _ (by decide +kernel)) ggX5_send_X5_needHouse
set_option maxRecDepth 20000 in
theorem ggX5_send_X5_needWithin : GoodIn wsX5_send wsX5_needWithin := goodIn_ca (goodIn_r _ [17, 1, 2] (by decide +kernel) (by decide +kernel)) (goodIn_sub (fun _ h => List.mem_cons_of_mem _ (List.mem_append_left _ (List.mem_append_left _ (List.mem_append_right _ h)))) (by decide +kernel))
set_option maxRecDepth 20000 in
theorem gX5_send_X5_needWithin : GoodIn wsX5_send (va_wsS RX5 74 yX5_needWithin wsX5_needWithin) := goodIn_app (goodIn_of _ (by decide +kernel)) ggX5_send_X5_needWithin
set_option maxRecDepth 20000 in
theorem ggX5_send_X1_restart : GoodIn wsX5_send wsX1_restart := goodIn_r _ [22, 23, 147, 148, 149, 150, 151] (by decide +kernel) (by decide +kernel)
set_option maxRecDepth 20000 in
theorem gX5_send_X1_restart : GoodIn wsX5_send (wsV RX5 167 RX1 yX1_restart wsX1_restart) := goodIn_app (goodIn_of _ (by decide +kernel)) ggX5_send_X1_restart
set_option maxRecDepth 20000 in
theorem ggX5_send_X1_add : GoodIn wsX5_send wsX1_add := goodIn_r _ [27, 23, 28, 29, 30, 31, 147, 148, 149, 150, 151] (by decide +kernel) (by decide +kernel)
set_option maxRecDepth 20000 in
theorem gX5_send_X1_add : GoodIn wsX5_send (wsV RX5 170 RX1 yX1_add wsX1_add) := goodIn_app (goodIn_of _ (by decide +kernel)) ggX5_send_X1_add
set_option maxRecDepth 20000 in
theorem ggX5_send_X5_takeStep : GoodIn wsX5_send wsX5_takeStep := goodIn_r _ [35, 7, 36, 37, 38, 39, 40, 41, 42, 43, 44, 11, 45, 46, 47, 48, 49, 50, 51, 52, 53, 54, 55, 56, 57, 58, 59, 60, 61, 62, 63, 64, 65, 66, 67, 68, 69, 70, 71, 72, 73, 74, 75, 76, 77, 78, 79, 80, 81, 82, 83, 84, 85, 86, 87, 88, 89, 90, 91, 92, 93, 94, 95, 96, 97, 98, 99, 100, 101, 102, 103, 104, 105, 106, 107, 108, 109, 110, 111, 112, 113, 5, 114, 115, 116, 117, 118, 119, 120, 121, 122, 123, 124, 125, 126, 127, 128, 24, 25, 26, 21, 27, 23, 28, 29, 30, 31, 129, 130, 131, 132, 133, 134, 135, 136, 137, 138, 147, 148, 149, 150, 151, 152, 153, 154, 155, 156, 157, 158, 159, 160, 161, 162, 163, 164, 165, 166, 167, 168, 169, 170, 171, 172, 139, 140, 141, 142, 143, 144, 145, 146] (by decide +kernel) (by decide +kernel)
set_option maxRecDepth 20000 in
theorem gX5_send_X5_takeStep : GoodIn wsX5_send (wsV RX5 177 RX5 yX5_takeStep wsX5_takeStep) := goodIn_app (goodIn_of _ (by decide +kernel)) ggX5_send_X5_takeStep
theorem dX5_send_0 : decode cX5_send 0 = .ok (.iload_n 1, 1) := by decide +kernel
theorem dX5_send_1 : decode cX5_send 1 = .ok (.invokestatic 113, 3) := by decide +kernel
theorem dX5_send_4 : decode cX5_send 4 = .ok (.iload_n 2, 1) := by decide +kernel
theorem dX5_send_5 : decode cX5_send 5 = .ok (.bipush 10, 2) := by decide +kernel
theorem dX5_send_7 : decode cX5_send 7 = .ok (.if_icmp .eq 7, 3) := by decide +kernel
theorem dX5_send_10 : decode cX5_send 10 = .ok (.iload_n 2, 1) := by decide +kernel
theorem dX5_send_11 : decode cX5_send 11 = .ok (.invokestatic 113, 3) := by decide +kernel
theorem dX5_send_14 : decode cX5_send 14 = .ok (.iload_n 3, 1) := by decide +kernel
theorem dX5_send_15 : decode cX5_send 15 = .ok (.iconst 0, 1) := by decide +kernel
theorem dX5_send_16 : decode cX5_send 16 = .ok (.iconst 3, 1) := by decide +kernel
theorem dX5_send_17 : decode cX5_send 17 = .ok (.invokestatic 74, 3) := by decide +kernel
theorem dX5_send_20 : decode cX5_send 20 = .ok (.iload 4, 2) := by decide +kernel
theorem dX5_send_22 : decode cX5_send 22 = .ok (.iconst 0, 1) := by decide +kernel
theorem dX5_send_23 : decode cX5_send 23 = .ok (.iconst 3, 1) := by decide +kernel
theorem dX5_send_24 : decode cX5_send 24 = .ok (.invokestatic 74, 3) := by decide +kernel
theorem dX5_send_27 : decode cX5_send 27 = .ok (.iload_n 1, 1) := by decide +kernel
theorem dX5_send_28 : decode cX5_send 28 = .ok (.iload_n 2, 1) := by decide +kernel
theorem dX5_send_29 : decode cX5_send 29 = .ok (.if_icmp .eq 12, 3) := by decide +kernel
theorem dX5_send_32 : decode cX5_send 32 = .ok (.iload_n 3, 1) := by decide +kernel
theorem dX5_send_33 : decode cX5_send 33 = .ok (.ifCond .ne 18, 3) := by decide +kernel
theorem dX5_send_36 : decode cX5_send 36 = .ok (.iload 4, 2) := by decide +kernel
theorem dX5_send_38 : decode cX5_send 38 = .ok (.ifCond .eq 13, 3) := by decide +kernel
theorem dX5_send_41 : decode cX5_send 41 = .ok (.new 67, 3) := by decide +kernel
theorem dX5_send_44 : decode cX5_send 44 = .ok (.dup, 1) := by decide +kernel
theorem dX5_send_45 : decode cX5_send 45 = .ok (.ldc 163, 2) := by decide +kernel
theorem dX5_send_47 : decode cX5_send 47 = .ok (.invokespecial 71, 3) := by decide +kernel
theorem dX5_send_50 : decode cX5_send 50 = .ok (.athrow, 1) := by decide +kernel
theorem dX5_send_51 : decode cX5_send 51 = .ok (.aload_n 0, 1) := by decide +kernel
theorem dX5_send_52 : decode cX5_send 52 = .ok (.getfield 12, 3) := by decide +kernel
theorem dX5_send_55 : decode cX5_send 55 = .ok (.getfield 116, 3) := by decide +kernel
theorem dX5_send_58 : decode cX5_send 58 = .ok (.iload_n 1, 1) := by decide +kernel
theorem dX5_send_59 : decode cX5_send 59 = .ok (.iaload, 1) := by decide +kernel
theorem dX5_send_60 : decode cX5_send 60 = .ok (.istore 5, 2) := by decide +kernel
theorem dX5_send_62 : decode cX5_send 62 = .ok (.iload 5, 2) := by decide +kernel
theorem dX5_send_64 : decode cX5_send 64 = .ok (.iconst (-1), 1) := by decide +kernel
theorem dX5_send_65 : decode cX5_send 65 = .ok (.if_icmp .ne 13, 3) := by decide +kernel
theorem dX5_send_68 : decode cX5_send 68 = .ok (.new 86, 3) := by decide +kernel
theorem dX5_send_71 : decode cX5_send 71 = .ok (.dup, 1) := by decide +kernel
theorem dX5_send_72 : decode cX5_send 72 = .ok (.ldc 165, 2) := by decide +kernel
theorem dX5_send_74 : decode cX5_send 74 = .ok (.invokespecial 90, 3) := by decide +kernel
theorem dX5_send_77 : decode cX5_send 77 = .ok (.athrow, 1) := by decide +kernel
theorem dX5_send_78 : decode cX5_send 78 = .ok (.aload_n 0, 1) := by decide +kernel
theorem dX5_send_79 : decode cX5_send 79 = .ok (.getfield 45, 3) := by decide +kernel
theorem dX5_send_82 : decode cX5_send 82 = .ok (.invokevirtual 167, 3) := by decide +kernel
theorem dX5_send_85 : decode cX5_send 85 = .ok (.aload_n 0, 1) := by decide +kernel
theorem dX5_send_86 : decode cX5_send 86 = .ok (.getfield 45, 3) := by decide +kernel
theorem dX5_send_89 : decode cX5_send 89 = .ok (.iload 5, 2) := by decide +kernel
theorem dX5_send_91 : decode cX5_send 91 = .ok (.iload_n 3, 1) := by decide +kernel
theorem dX5_send_92 : decode cX5_send 92 = .ok (.iload 4, 2) := by decide +kernel
theorem dX5_send_94 : decode cX5_send 94 = .ok (.iconst 0, 1) := by decide +kernel
theorem dX5_send_95 : decode cX5_send 95 = .ok (.invokevirtual 170, 3) := by decide +kernel
theorem dX5_send_98 : decode cX5_send 98 = .ok (.iconst 0, 1) := by decide +kernel
theorem dX5_send_99 : decode cX5_send 99 = .ok (.istore 6, 2) := by decide +kernel
theorem dX5_send_101 : decode cX5_send 101 = .ok (.iconst 0, 1) := by decide +kernel
theorem dX5_send_102 : decode cX5_send 102 = .ok (.istore 7, 2) := by decide +kernel
theorem dX5_send_104 : decode cX5_send 104 = .ok (.iload 7, 2) := by decide +kernel
theorem dX5_send_106 : decode cX5_send 106 = .ok (.sipush 400, 3) := by decide +kernel
theorem dX5_send_109 : decode cX5_send 109 = .ok (.if_icmp .ge 34, 3) := by decide +kernel
theorem dX5_send_112 : decode cX5_send 112 = .ok (.iload 7, 2) := by decide +kernel
theorem dX5_send_114 : decode cX5_send 114 = .ok (.aload_n 0, 1) := by decide +kernel
theorem dX5_send_115 : decode cX5_send 115 = .ok (.getfield 45, 3) := by decide +kernel
theorem dX5_send_118 : decode cX5_send 118 = .ok (.getfield 174, 3) := by decide +kernel
theorem dX5_send_121 : decode cX5_send 121 = .ok (.if_icmp .ge 22, 3) := by decide +kernel
theorem dX5_send_124 : decode cX5_send 124 = .ok (.iload 6, 2) := by decide +kernel
theorem dX5_send_126 : decode cX5_send 126 = .ok (.aload_n 0, 1) := by decide +kernel
theorem dX5_send_127 : decode cX5_send 127 = .ok (.iload 7, 2) := by decide +kernel
theorem dX5_send_129 : decode cX5_send 129 = .ok (.iload_n 1, 1) := by decide +kernel
theorem dX5_send_130 : decode cX5_send 130 = .ok (.iload_n 2, 1) := by decide +kernel
theorem dX5_send_131 : decode cX5_send 131 = .ok (.invokevirtual 177, 3) := by decide +kernel
theorem dX5_send_134 : decode cX5_send 134 = .ok (.iadd, 1) := by decide +kernel
theorem dX5_send_135 : decode cX5_send 135 = .ok (.istore 6, 2) := by decide +kernel
theorem dX5_send_137 : decode cX5_send 137 = .ok (.iinc 7 1, 3) := by decide +kernel
theorem dX5_send_140 : decode cX5_send 140 = .ok (.goto (-36), 3) := by decide +kernel
theorem dX5_send_143 : decode cX5_send 143 = .ok (.iload 6, 2) := by decide +kernel
theorem dX5_send_145 : decode cX5_send 145 = .ok (.ireturn, 1) := by decide +kernel
set_option maxRecDepth 20000 in
theorem ggX5_holds_X5_needSwitch : GoodIn wsX5_holds wsX5_needSwitch := goodIn_ca (goodIn_r _ [13, 14, 15] (by decide +kernel) (by decide +kernel)) (goodIn_sub (fun _ h => List.mem_cons_of_mem _ (List.mem_append_right _ h)) (by decide +kernel))
set_option maxRecDepth 20000 in
theorem gX5_holds_X5_needSwitch : GoodIn wsX5_holds (va_wsS RX5 130 yX5_needSwitch wsX5_needSwitch) := goodIn_app (goodIn_of _ (by decide +kernel)) ggX5_holds_X5_needSwitch
theorem dX5_holds_0 : decode cX5_holds 0 = .ok (.iload_n 1, 1) := by decide +kernel
theorem dX5_holds_1 : decode cX5_holds 1 = .ok (.invokestatic 130, 3) := by decide +kernel
theorem dX5_holds_4 : decode cX5_holds 4 = .ok (.iload_n 2, 1) := by decide +kernel
theorem dX5_holds_5 : decode cX5_holds 5 = .ok (.tableswitch 85 0 4 #[35, 45, 55, 65, 75], 35) := by decide +kernel
theorem dX5_holds_40 : decode cX5_holds 40 = .ok (.aload_n 0, 1) := by decide +kernel
theorem dX5_holds_41 : decode cX5_holds 41 = .ok (.getfield 21, 3) := by decide +kernel
theorem dX5_holds_44 : decode cX5_holds 44 = .ok (.getfield 181, 3) := by decide +kernel
theorem dX5_holds_47 : decode cX5_holds 47 = .ok (.iload_n 1, 1) := by decide +kernel
theorem dX5_holds_48 : decode cX5_holds 48 = .ok (.iaload, 1) := by decide +kernel
theorem dX5_holds_49 : decode cX5_holds 49 = .ok (.ireturn, 1) := by decide +kernel
theorem dX5_holds_50 : decode cX5_holds 50 = .ok (.aload_n 0, 1) := by decide +kernel
theorem dX5_holds_51 : decode cX5_holds 51 = .ok (.getfield 21, 3) := by decide +kernel
theorem dX5_holds_54 : decode cX5_holds 54 = .ok (.getfield 184, 3) := by decide +kernel
theorem dX5_holds_57 : decode cX5_holds 57 = .ok (.iload_n 1, 1) := by decide +kernel
theorem dX5_holds_58 : decode cX5_holds 58 = .ok (.iaload, 1) := by decide +kernel
theorem dX5_holds_59 : decode cX5_holds 59 = .ok (.ireturn, 1) := by decide +kernel
theorem dX5_holds_60 : decode cX5_holds 60 = .ok (.aload_n 0, 1) := by decide +kernel
theorem dX5_holds_61 : decode cX5_holds 61 = .ok (.getfield 21, 3) := by decide +kernel
theorem dX5_holds_64 : decode cX5_holds 64 = .ok (.getfield 187, 3) := by decide +kernel
theorem dX5_holds_67 : decode cX5_holds 67 = .ok (.iload_n 1, 1) := by decide +kernel
theorem dX5_holds_68 : decode cX5_holds 68 = .ok (.iaload, 1) := by decide +kernel
theorem dX5_holds_69 : decode cX5_holds 69 = .ok (.ireturn, 1) := by decide +kernel
theorem dX5_holds_70 : decode cX5_holds 70 = .ok (.aload_n 0, 1) := by decide +kernel
theorem dX5_holds_71 : decode cX5_holds 71 = .ok (.getfield 21, 3) := by decide +kernel
theorem dX5_holds_74 : decode cX5_holds 74 = .ok (.getfield 190, 3) := by decide +kernel
theorem dX5_holds_77 : decode cX5_holds 77 = .ok (.iload_n 1, 1) := by decide +kernel
theorem dX5_holds_78 : decode cX5_holds 78 = .ok (.iaload, 1) := by decide +kernel
theorem dX5_holds_79 : decode cX5_holds 79 = .ok (.ireturn, 1) := by decide +kernel
theorem dX5_holds_80 : decode cX5_holds 80 = .ok (.aload_n 0, 1) := by decide +kernel
theorem dX5_holds_81 : decode cX5_holds 81 = .ok (.getfield 38, 3) := by decide +kernel
theorem dX5_holds_84 : decode cX5_holds 84 = .ok (.getfield 193, 3) := by decide +kernel
theorem dX5_holds_87 : decode cX5_holds 87 = .ok (.iload_n 1, 1) := by decide +kernel
theorem dX5_holds_88 : decode cX5_holds 88 = .ok (.iaload, 1) := by decide +kernel
theorem dX5_holds_89 : decode cX5_holds 89 = .ok (.ireturn, 1) := by decide +kernel
theorem dX5_holds_90 : decode cX5_holds 90 = .ok (.new 67, 3) := by decide +kernel
theorem dX5_holds_93 : decode cX5_holds 93 = .ok (.dup, 1) := by decide +kernel
theorem dX5_holds_94 : decode cX5_holds 94 = .ok (.ldc 196, 2) := by decide +kernel
theorem dX5_holds_96 : decode cX5_holds 96 = .ok (.invokespecial 71, 3) := by decide +kernel
theorem dX5_holds_99 : decode cX5_holds 99 = .ok (.athrow, 1) := by decide +kernel
set_option maxRecDepth 20000 in
theorem ggX5_port_X5_needPort : GoodIn wsX5_port wsX5_needPort := goodIn_ca (goodIn_r _ [10, 11, 12, 13, 14, 9, 15] (by decide +kernel) (by decide +kernel)) (goodIn_sub (fun _ h => List.mem_cons_of_mem _ (List.mem_append_right _ h)) (by decide +kernel))
set_option maxRecDepth 20000 in
theorem gX5_port_X5_needPort : GoodIn wsX5_port (va_wsS RX5 63 yX5_needPort wsX5_needPort) := goodIn_app (goodIn_of _ (by decide +kernel)) ggX5_port_X5_needPort
set_option maxRecDepth 20000 in
theorem ggX5_port_X5_spotOf : GoodIn wsX5_port wsX5_spotOf := goodIn_r _ [18] (by decide +kernel) (by decide +kernel)
set_option maxRecDepth 20000 in
theorem gX5_port_X5_spotOf : GoodIn wsX5_port (va_wsS RX5 78 yX5_spotOf wsX5_spotOf) := goodIn_app (goodIn_of _ (by decide +kernel)) ggX5_port_X5_spotOf
set_option maxRecDepth 20000 in
theorem ggX5_port_X3_isShut : GoodIn wsX5_port wsX3_isShut := goodIn_r _ [23, 24, 35, 36, 37, 38, 39, 40, 41, 42, 43, 44, 45, 46, 47, 48, 49, 50] (by decide +kernel) (by decide +kernel)
set_option maxRecDepth 20000 in
theorem gX5_port_X3_isShut : GoodIn wsX5_port (wsV RX5 136 RX3 yX3_isShut wsX3_isShut) := goodIn_app (goodIn_of _ (by decide +kernel)) ggX5_port_X3_isShut
theorem dX5_port_0 : decode cX5_port 0 = .ok (.iload_n 1, 1) := by decide +kernel
theorem dX5_port_1 : decode cX5_port 1 = .ok (.iload_n 2, 1) := by decide +kernel
theorem dX5_port_2 : decode cX5_port 2 = .ok (.invokestatic 63, 3) := by decide +kernel
theorem dX5_port_5 : decode cX5_port 5 = .ok (.iload_n 1, 1) := by decide +kernel
theorem dX5_port_6 : decode cX5_port 6 = .ok (.iload_n 2, 1) := by decide +kernel
theorem dX5_port_7 : decode cX5_port 7 = .ok (.invokestatic 78, 3) := by decide +kernel
theorem dX5_port_10 : decode cX5_port 10 = .ok (.istore 4, 2) := by decide +kernel
theorem dX5_port_12 : decode cX5_port 12 = .ok (.iload_n 3, 1) := by decide +kernel
theorem dX5_port_13 : decode cX5_port 13 = .ok (.tableswitch 87 0 3 #[31, 50, 61, 79], 31) := by decide +kernel
theorem dX5_port_44 : decode cX5_port 44 = .ok (.aload_n 0, 1) := by decide +kernel
theorem dX5_port_45 : decode cX5_port 45 = .ok (.getfield 21, 3) := by decide +kernel
theorem dX5_port_48 : decode cX5_port 48 = .ok (.getfield 198, 3) := by decide +kernel
theorem dX5_port_51 : decode cX5_port 51 = .ok (.iload 4, 2) := by decide +kernel
theorem dX5_port_53 : decode cX5_port 53 = .ok (.baload, 1) := by decide +kernel
theorem dX5_port_54 : decode cX5_port 54 = .ok (.ifCond .eq 7, 3) := by decide +kernel
theorem dX5_port_57 : decode cX5_port 57 = .ok (.iconst 1, 1) := by decide +kernel
theorem dX5_port_58 : decode cX5_port 58 = .ok (.goto 4, 3) := by decide +kernel
theorem dX5_port_61 : decode cX5_port 61 = .ok (.iconst 0, 1) := by decide +kernel
theorem dX5_port_62 : decode cX5_port 62 = .ok (.ireturn, 1) := by decide +kernel
theorem dX5_port_63 : decode cX5_port 63 = .ok (.aload_n 0, 1) := by decide +kernel
theorem dX5_port_64 : decode cX5_port 64 = .ok (.getfield 21, 3) := by decide +kernel
theorem dX5_port_67 : decode cX5_port 67 = .ok (.getfield 202, 3) := by decide +kernel
theorem dX5_port_70 : decode cX5_port 70 = .ok (.iload 4, 2) := by decide +kernel
theorem dX5_port_72 : decode cX5_port 72 = .ok (.iaload, 1) := by decide +kernel
theorem dX5_port_73 : decode cX5_port 73 = .ok (.ireturn, 1) := by decide +kernel
theorem dX5_port_74 : decode cX5_port 74 = .ok (.aload_n 0, 1) := by decide +kernel
theorem dX5_port_75 : decode cX5_port 75 = .ok (.getfield 21, 3) := by decide +kernel
theorem dX5_port_78 : decode cX5_port 78 = .ok (.iload 4, 2) := by decide +kernel
theorem dX5_port_80 : decode cX5_port 80 = .ok (.invokevirtual 136, 3) := by decide +kernel
theorem dX5_port_83 : decode cX5_port 83 = .ok (.ifCond .eq 7, 3) := by decide +kernel
theorem dX5_port_86 : decode cX5_port 86 = .ok (.iconst 1, 1) := by decide +kernel
theorem dX5_port_87 : decode cX5_port 87 = .ok (.goto 4, 3) := by decide +kernel
theorem dX5_port_90 : decode cX5_port 90 = .ok (.iconst 0, 1) := by decide +kernel
theorem dX5_port_91 : decode cX5_port 91 = .ok (.ireturn, 1) := by decide +kernel
theorem dX5_port_92 : decode cX5_port 92 = .ok (.aload_n 0, 1) := by decide +kernel
theorem dX5_port_93 : decode cX5_port 93 = .ok (.getfield 49, 3) := by decide +kernel
theorem dX5_port_96 : decode cX5_port 96 = .ok (.iload 4, 2) := by decide +kernel
theorem dX5_port_98 : decode cX5_port 98 = .ok (.iaload, 1) := by decide +kernel
theorem dX5_port_99 : decode cX5_port 99 = .ok (.ireturn, 1) := by decide +kernel
theorem dX5_port_100 : decode cX5_port 100 = .ok (.new 67, 3) := by decide +kernel
theorem dX5_port_103 : decode cX5_port 103 = .ok (.dup, 1) := by decide +kernel
theorem dX5_port_104 : decode cX5_port 104 = .ok (.ldc 205, 2) := by decide +kernel
theorem dX5_port_106 : decode cX5_port 106 = .ok (.invokespecial 71, 3) := by decide +kernel
theorem dX5_port_109 : decode cX5_port 109 = .ok (.athrow, 1) := by decide +kernel
set_option maxRecDepth 20000 in
theorem ggX5_table_X5_needSwitch : GoodIn wsX5_table wsX5_needSwitch := goodIn_ca (goodIn_r _ [5, 6, 7] (by decide +kernel) (by decide +kernel)) (goodIn_sub (fun _ h => List.mem_cons_of_mem _ (List.mem_append_right _ h)) (by decide +kernel))
set_option maxRecDepth 20000 in
theorem gX5_table_X5_needSwitch : GoodIn wsX5_table (va_wsS RX5 130 yX5_needSwitch wsX5_needSwitch) := goodIn_app (goodIn_of _ (by decide +kernel)) ggX5_table_X5_needSwitch
set_option maxRecDepth 20000 in
theorem ggX5_table_X5_needLane : GoodIn wsX5_table wsX5_needLane := goodIn_ca (goodIn_r _ [10, 6, 7] (by decide +kernel) (by decide +kernel)) (goodIn_sub (fun _ h => List.mem_cons_of_mem _ (List.mem_append_right _ h)) (by decide +kernel))
set_option maxRecDepth 20000 in
theorem gX5_table_X5_needLane : GoodIn wsX5_table (va_wsS RX5 148 yX5_needLane wsX5_needLane) := goodIn_app (goodIn_of _ (by decide +kernel)) ggX5_table_X5_needLane
set_option maxRecDepth 20000 in
theorem ggX5_table_X5_needHouse : GoodIn wsX5_table wsX5_needHouse := goodIn_ca (goodIn_r _ [13, 6, 7] (by decide +kernel) (by decide +kernel)) (goodIn_sub (fun _ h => List.mem_cons_of_mem _ (List.mem_append_right _ h)) (by decide +kernel))
set_option maxRecDepth 20000 in
theorem gX5_table_X5_needHouse : GoodIn wsX5_table (va_wsS RX5 113 yX5_needHouse wsX5_needHouse) := goodIn_app (goodIn_of _ (by decide +kernel)) ggX5_table_X5_needHouse
set_option maxRecDepth 20000 in
theorem ggX5_table_X2_portFor : GoodIn wsX5_table wsX2_portFor := goodIn_r _ [18, 19, 20, 21, 17, 22, 33, 34, 35] (by decide +kernel) (by decide +kernel)
set_option maxRecDepth 20000 in
theorem gX5_table_X2_portFor : GoodIn wsX5_table (wsV RX5 207 RX2 yX2_portFor wsX2_portFor) := goodIn_app (goodIn_of _ (by decide +kernel)) ggX5_table_X2_portFor
theorem dX5_table_0 : decode cX5_table 0 = .ok (.iload_n 1, 1) := by decide +kernel
theorem dX5_table_1 : decode cX5_table 1 = .ok (.invokestatic 130, 3) := by decide +kernel
theorem dX5_table_4 : decode cX5_table 4 = .ok (.iload_n 2, 1) := by decide +kernel
theorem dX5_table_5 : decode cX5_table 5 = .ok (.invokestatic 148, 3) := by decide +kernel
theorem dX5_table_8 : decode cX5_table 8 = .ok (.iload_n 3, 1) := by decide +kernel
theorem dX5_table_9 : decode cX5_table 9 = .ok (.invokestatic 113, 3) := by decide +kernel
theorem dX5_table_12 : decode cX5_table 12 = .ok (.aload_n 0, 1) := by decide +kernel
theorem dX5_table_13 : decode cX5_table 13 = .ok (.getfield 38, 3) := by decide +kernel
theorem dX5_table_16 : decode cX5_table 16 = .ok (.iload_n 1, 1) := by decide +kernel
theorem dX5_table_17 : decode cX5_table 17 = .ok (.iload_n 2, 1) := by decide +kernel
theorem dX5_table_18 : decode cX5_table 18 = .ok (.iload_n 3, 1) := by decide +kernel
theorem dX5_table_19 : decode cX5_table 19 = .ok (.invokevirtual 207, 3) := by decide +kernel
theorem dX5_table_22 : decode cX5_table 22 = .ok (.ireturn, 1) := by decide +kernel
set_option maxRecDepth 20000 in
theorem ggX5_got_X5_needHouse : GoodIn wsX5_got wsX5_needHouse := goodIn_ca (goodIn_r _ [6, 7, 8] (by decide +kernel) (by decide +kernel)) (goodIn_sub (fun _ h => List.mem_cons_of_mem _ (List.mem_append_right _ h)) (by decide +kernel))
set_option maxRecDepth 20000 in
theorem gX5_got_X5_needHouse : GoodIn wsX5_got (va_wsS RX5 113 yX5_needHouse wsX5_needHouse) := goodIn_app (goodIn_of _ (by decide +kernel)) ggX5_got_X5_needHouse
theorem dX5_got_0 : decode cX5_got 0 = .ok (.iload_n 1, 1) := by decide +kernel
theorem dX5_got_1 : decode cX5_got 1 = .ok (.invokestatic 113, 3) := by decide +kernel
theorem dX5_got_4 : decode cX5_got 4 = .ok (.iload_n 2, 1) := by decide +kernel
theorem dX5_got_5 : decode cX5_got 5 = .ok (.ifCond .eq 12, 3) := by decide +kernel
theorem dX5_got_8 : decode cX5_got 8 = .ok (.aload_n 0, 1) := by decide +kernel
theorem dX5_got_9 : decode cX5_got 9 = .ok (.getfield 56, 3) := by decide +kernel
theorem dX5_got_12 : decode cX5_got 12 = .ok (.iload_n 1, 1) := by decide +kernel
theorem dX5_got_13 : decode cX5_got 13 = .ok (.iaload, 1) := by decide +kernel
theorem dX5_got_14 : decode cX5_got 14 = .ok (.goto 9, 3) := by decide +kernel
theorem dX5_got_17 : decode cX5_got 17 = .ok (.aload_n 0, 1) := by decide +kernel
theorem dX5_got_18 : decode cX5_got 18 = .ok (.getfield 53, 3) := by decide +kernel
theorem dX5_got_21 : decode cX5_got 21 = .ok (.iload_n 1, 1) := by decide +kernel
theorem dX5_got_22 : decode cX5_got 22 = .ok (.iaload, 1) := by decide +kernel
theorem dX5_got_23 : decode cX5_got 23 = .ok (.ireturn, 1) := by decide +kernel
set_option maxRecDepth 20000 in
theorem ggX5_isAtRest_X3_copyFrom : GoodIn wsX5_isAtRest wsX3_copyFrom := goodIn_r _ [7, 8, 9, 10, 11, 12, 13, 14, 15, 16, 126, 127, 128, 129, 130, 131, 132, 133, 134, 135, 136, 137, 138, 139, 140, 141] (by decide +kernel) (by decide +kernel)
set_option maxRecDepth 20000 in
theorem gX5_isAtRest_X3_copyFrom : GoodIn wsX5_isAtRest (wsV RX5 210 RX3 yX3_copyFrom wsX3_copyFrom) := goodIn_app (goodIn_of _ (by decide +kernel)) ggX5_isAtRest_X3_copyFrom
set_option maxRecDepth 20000 in
theorem ggX5_isAtRest_X3_pass : GoodIn wsX5_isAtRest wsX3_pass := goodIn_r _ [20, 16, 21, 22, 23, 24, 6, 25, 26, 27, 28, 8, 29, 9, 30, 10, 31, 32, 33, 34, 35, 36, 37, 38, 12, 39, 40, 41, 42, 43, 44, 45, 46, 47, 48, 49, 50, 51, 52, 13, 14, 15, 53, 54, 55, 56, 11, 57, 58, 59, 60, 61, 62, 63, 64, 65, 66, 67, 68, 69, 70, 71, 72, 73, 74, 75, 76, 77, 78, 79, 80, 81, 82, 83, 84, 85, 86, 87, 88, 89, 90, 91, 92, 93, 94, 95, 96, 97, 98, 99, 100, 101, 102, 103, 104, 105, 106, 107, 126, 127, 128, 129, 130, 131, 132, 133, 134, 135, 136, 137, 138, 139, 140, 141, 142, 143, 144, 145, 146, 147, 148, 149] (by decide +kernel) (by decide +kernel)
set_option maxRecDepth 20000 in
theorem gX5_isAtRest_X3_pass : GoodIn wsX5_isAtRest (wsV RX5 214 RX3 yX3_pass wsX3_pass) := goodIn_app (goodIn_of _ (by decide +kernel)) ggX5_isAtRest_X3_pass
set_option maxRecDepth 20000 in
theorem ggX5_isAtRest_X3_looksLike : GoodIn wsX5_isAtRest wsX3_looksLike := goodIn_r _ [111, 8, 9, 10, 13, 14, 126, 127, 128, 129, 130, 131, 132, 133, 134, 135, 136, 137, 138, 139, 140, 141] (by decide +kernel) (by decide +kernel)
set_option maxRecDepth 20000 in
theorem gX5_isAtRest_X3_looksLike : GoodIn wsX5_isAtRest (wsV RX5 217 RX3 yX3_looksLike wsX3_looksLike) := goodIn_app (goodIn_of _ (by decide +kernel)) ggX5_isAtRest_X3_looksLike
set_option maxRecDepth 20000 in
theorem ggX5_isAtRest_X3_hasWaitingPort : GoodIn wsX5_isAtRest wsX3_hasWaitingPort := goodIn_r _ [115, 15, 126, 127, 128, 129, 130, 131, 132, 133, 134, 135, 136, 137, 138, 139, 140, 141] (by decide +kernel) (by decide +kernel)
set_option maxRecDepth 20000 in
theorem gX5_isAtRest_X3_hasWaitingPort : GoodIn wsX5_isAtRest (wsV RX5 221 RX3 yX3_hasWaitingPort wsX3_hasWaitingPort) := goodIn_app (goodIn_of _ (by decide +kernel)) ggX5_isAtRest_X3_hasWaitingPort
theorem dX5_isAtRest_0 : decode cX5_isAtRest 0 = .ok (.aload_n 0, 1) := by decide +kernel
theorem dX5_isAtRest_1 : decode cX5_isAtRest 1 = .ok (.getfield 25, 3) := by decide +kernel
theorem dX5_isAtRest_4 : decode cX5_isAtRest 4 = .ok (.aload_n 0, 1) := by decide +kernel
theorem dX5_isAtRest_5 : decode cX5_isAtRest 5 = .ok (.getfield 21, 3) := by decide +kernel
theorem dX5_isAtRest_8 : decode cX5_isAtRest 8 = .ok (.invokevirtual 210, 3) := by decide +kernel
theorem dX5_isAtRest_11 : decode cX5_isAtRest 11 = .ok (.aload_n 0, 1) := by decide +kernel
theorem dX5_isAtRest_12 : decode cX5_isAtRest 12 = .ok (.getfield 25, 3) := by decide +kernel
theorem dX5_isAtRest_15 : decode cX5_isAtRest 15 = .ok (.invokevirtual 214, 3) := by decide +kernel
theorem dX5_isAtRest_18 : decode cX5_isAtRest 18 = .ok (.aload_n 0, 1) := by decide +kernel
theorem dX5_isAtRest_19 : decode cX5_isAtRest 19 = .ok (.getfield 25, 3) := by decide +kernel
theorem dX5_isAtRest_22 : decode cX5_isAtRest 22 = .ok (.aload_n 0, 1) := by decide +kernel
theorem dX5_isAtRest_23 : decode cX5_isAtRest 23 = .ok (.getfield 21, 3) := by decide +kernel
theorem dX5_isAtRest_26 : decode cX5_isAtRest 26 = .ok (.invokevirtual 217, 3) := by decide +kernel
theorem dX5_isAtRest_29 : decode cX5_isAtRest 29 = .ok (.ifCond .eq 17, 3) := by decide +kernel
theorem dX5_isAtRest_32 : decode cX5_isAtRest 32 = .ok (.aload_n 0, 1) := by decide +kernel
theorem dX5_isAtRest_33 : decode cX5_isAtRest 33 = .ok (.getfield 25, 3) := by decide +kernel
theorem dX5_isAtRest_36 : decode cX5_isAtRest 36 = .ok (.invokevirtual 221, 3) := by decide +kernel
theorem dX5_isAtRest_39 : decode cX5_isAtRest 39 = .ok (.ifCond .ne 7, 3) := by decide +kernel
theorem dX5_isAtRest_42 : decode cX5_isAtRest 42 = .ok (.iconst 1, 1) := by decide +kernel
theorem dX5_isAtRest_43 : decode cX5_isAtRest 43 = .ok (.goto 4, 3) := by decide +kernel
theorem dX5_isAtRest_46 : decode cX5_isAtRest 46 = .ok (.iconst 0, 1) := by decide +kernel
theorem dX5_isAtRest_47 : decode cX5_isAtRest 47 = .ok (.ireturn, 1) := by decide +kernel
set_option maxRecDepth 20000 in
theorem ggX5_found_X5_needSwitch : GoodIn wsX5_found wsX5_needSwitch := goodIn_ca (goodIn_r _ [7, 8, 9] (by decide +kernel) (by decide +kernel)) (goodIn_sub (fun _ h => List.mem_cons_of_mem _ (List.mem_append_right _ h)) (by decide +kernel))
set_option maxRecDepth 20000 in
theorem gX5_found_X5_needSwitch : GoodIn wsX5_found (va_wsS RX5 130 yX5_needSwitch wsX5_needSwitch) := goodIn_app (goodIn_of _ (by decide +kernel)) ggX5_found_X5_needSwitch
set_option maxRecDepth 20000 in
theorem ggX5_found_X3_measureWays : GoodIn wsX5_found wsX3_measureWays := goodIn_r _ [14, 15, 16, 17, 18, 19, 20, 21, 13, 22, 23, 24, 25, 26, 27, 28, 29, 30, 31, 48, 49, 50, 51, 52, 53, 54, 55, 56, 57, 58, 59, 60, 61, 62, 63, 64, 65, 66, 67, 68, 69, 70, 71] (by decide +kernel) (by decide +kernel)
set_option maxRecDepth 20000 in
theorem gX5_found_X3_measureWays : GoodIn wsX5_found (wsV RX5 225 RX3 yX3_measureWays wsX3_measureWays) := goodIn_app (goodIn_of _ (by decide +kernel)) ggX5_found_X3_measureWays
set_option maxRecDepth 20000 in
theorem ggX5_found_X4_isBetterName : GoodIn wsX5_found wsX4_isBetterName := goodIn_r _ [36, 37, 64, 65, 66, 67, 68, 69, 70, 71] (by decide +kernel) (by decide +kernel)
set_option maxRecDepth 20000 in
theorem gX5_found_X4_isBetterName : GoodIn wsX5_found (wsV RX5 231 RX4 yX4_isBetterName wsX4_isBetterName) := goodIn_app (goodIn_of _ (by decide +kernel)) ggX5_found_X4_isBetterName
theorem dX5_found_0 : decode cX5_found 0 = .ok (.iload_n 1, 1) := by decide +kernel
theorem dX5_found_1 : decode cX5_found 1 = .ok (.invokestatic 130, 3) := by decide +kernel
theorem dX5_found_4 : decode cX5_found 4 = .ok (.aload_n 0, 1) := by decide +kernel
theorem dX5_found_5 : decode cX5_found 5 = .ok (.getfield 21, 3) := by decide +kernel
theorem dX5_found_8 : decode cX5_found 8 = .ok (.iload_n 1, 1) := by decide +kernel
theorem dX5_found_9 : decode cX5_found 9 = .ok (.invokevirtual 225, 3) := by decide +kernel
theorem dX5_found_12 : decode cX5_found 12 = .ok (.iload_n 1, 1) := by decide +kernel
theorem dX5_found_13 : decode cX5_found 13 = .ok (.istore_n 2, 1) := by decide +kernel
theorem dX5_found_14 : decode cX5_found 14 = .ok (.iconst 0, 1) := by decide +kernel
theorem dX5_found_15 : decode cX5_found 15 = .ok (.istore_n 3, 1) := by decide +kernel
theorem dX5_found_16 : decode cX5_found 16 = .ok (.iload_n 3, 1) := by decide +kernel
theorem dX5_found_17 : decode cX5_found 17 = .ok (.bipush 6, 2) := by decide +kernel
theorem dX5_found_19 : decode cX5_found 19 = .ok (.if_icmp .ge 36, 3) := by decide +kernel
theorem dX5_found_22 : decode cX5_found 22 = .ok (.aload_n 0, 1) := by decide +kernel
theorem dX5_found_23 : decode cX5_found 23 = .ok (.getfield 21, 3) := by decide +kernel
theorem dX5_found_26 : decode cX5_found 26 = .ok (.getfield 228, 3) := by decide +kernel
theorem dX5_found_29 : decode cX5_found 29 = .ok (.iload_n 3, 1) := by decide +kernel
theorem dX5_found_30 : decode cX5_found 30 = .ok (.iaload, 1) := by decide +kernel
theorem dX5_found_31 : decode cX5_found 31 = .ok (.iconst (-1), 1) := by decide +kernel
theorem dX5_found_32 : decode cX5_found 32 = .ok (.if_icmp .eq 17, 3) := by decide +kernel
theorem dX5_found_35 : decode cX5_found 35 = .ok (.aload_n 0, 1) := by decide +kernel
theorem dX5_found_36 : decode cX5_found 36 = .ok (.getfield 12, 3) := by decide +kernel
theorem dX5_found_39 : decode cX5_found 39 = .ok (.iload_n 3, 1) := by decide +kernel
theorem dX5_found_40 : decode cX5_found 40 = .ok (.iload_n 2, 1) := by decide +kernel
theorem dX5_found_41 : decode cX5_found 41 = .ok (.invokevirtual 231, 3) := by decide +kernel
theorem dX5_found_44 : decode cX5_found 44 = .ok (.ifCond .eq 5, 3) := by decide +kernel
theorem dX5_found_47 : decode cX5_found 47 = .ok (.iload_n 3, 1) := by decide +kernel
theorem dX5_found_48 : decode cX5_found 48 = .ok (.istore_n 2, 1) := by decide +kernel
theorem dX5_found_49 : decode cX5_found 49 = .ok (.iinc 3 1, 3) := by decide +kernel
theorem dX5_found_52 : decode cX5_found 52 = .ok (.goto (-36), 3) := by decide +kernel
theorem dX5_found_55 : decode cX5_found 55 = .ok (.sipush 1000, 3) := by decide +kernel
theorem dX5_found_58 : decode cX5_found 58 = .ok (.iload_n 2, 1) := by decide +kernel
theorem dX5_found_59 : decode cX5_found 59 = .ok (.imul, 1) := by decide +kernel
theorem dX5_found_60 : decode cX5_found 60 = .ok (.aload_n 0, 1) := by decide +kernel
theorem dX5_found_61 : decode cX5_found 61 = .ok (.getfield 21, 3) := by decide +kernel
theorem dX5_found_64 : decode cX5_found 64 = .ok (.getfield 228, 3) := by decide +kernel
theorem dX5_found_67 : decode cX5_found 67 = .ok (.iload_n 2, 1) := by decide +kernel
theorem dX5_found_68 : decode cX5_found 68 = .ok (.iaload, 1) := by decide +kernel
theorem dX5_found_69 : decode cX5_found 69 = .ok (.iadd, 1) := by decide +kernel
theorem dX5_found_70 : decode cX5_found 70 = .ok (.ireturn, 1) := by decide +kernel
set_option maxRecDepth 20000 in
theorem ggX5_walk_X5_needHouse : GoodIn wsX5_walk wsX5_needHouse := goodIn_ca (goodIn_r _ [13, 14, 15] (by decide +kernel) (by decide +kernel)) (goodIn_sub (fun _ h => List.mem_cons_of_mem _ (List.mem_append_right _ h)) (by decide +kernel))
set_option maxRecDepth 20000 in
theorem gX5_walk_X5_needHouse : GoodIn wsX5_walk (va_wsS RX5 113 yX5_needHouse wsX5_needHouse) := goodIn_app (goodIn_of _ (by decide +kernel)) ggX5_walk_X5_needHouse
set_option maxRecDepth 20000 in
theorem ggX5_walk_X5_laneLetIn : GoodIn wsX5_walk wsX5_laneLetIn := goodIn_r _ [19, 20, 21, 9, 22, 23, 24, 25, 26, 27, 28, 29, 30, 31, 32, 33, 34, 35, 58, 59, 60, 61, 62, 63, 64, 65, 66, 67, 76, 77, 78, 79, 80, 81, 82, 83, 84, 85, 86, 87, 88, 89, 90, 91, 92, 93] (by decide +kernel) (by decide +kernel)
set_option maxRecDepth 20000 in
theorem gX5_walk_X5_laneLetIn : GoodIn wsX5_walk (wsV RX5 239 RX5 yX5_laneLetIn wsX5_laneLetIn) := goodIn_app (goodIn_of _ (by decide +kernel)) ggX5_walk_X5_laneLetIn
set_option maxRecDepth 20000 in
theorem ggX5_walk_X5_wayTold : GoodIn wsX5_walk wsX5_wayTold := goodIn_r _ [39, 40, 20, 21, 9, 41, 42, 43, 44, 45, 46, 47, 48, 49, 50, 51, 12, 52, 53, 29, 30, 25, 31, 32, 33, 34, 35, 58, 59, 60, 61, 62, 63, 64, 65, 66, 67, 76, 77, 78, 79, 80, 81, 82, 83, 84, 85, 86, 87, 88, 89, 90, 91, 94, 95, 96, 92, 93] (by decide +kernel) (by decide +kernel)
set_option maxRecDepth 20000 in
theorem gX5_walk_X5_wayTold : GoodIn wsX5_walk (wsV RX5 242 RX5 yX5_wayTold wsX5_wayTold) := goodIn_app (goodIn_of _ (by decide +kernel)) ggX5_walk_X5_wayTold
set_option maxRecDepth 20000 in
theorem ggX5_walk_X0_tagOut : GoodIn wsX5_walk wsX0_tagOut := goodIn_r _ [57, 27, 92, 93] (by decide +kernel) (by decide +kernel)
set_option maxRecDepth 20000 in
theorem gX5_walk_X0_tagOut : GoodIn wsX5_walk (wsV RX5 248 RX0 yX0_tagOut wsX0_tagOut) := goodIn_app (goodIn_of _ (by decide +kernel)) ggX5_walk_X0_tagOut
theorem dX5_walk_0 : decode cX5_walk 0 = .ok (.iload_n 1, 1) := by decide +kernel
theorem dX5_walk_1 : decode cX5_walk 1 = .ok (.invokestatic 113, 3) := by decide +kernel
theorem dX5_walk_4 : decode cX5_walk 4 = .ok (.iload_n 2, 1) := by decide +kernel
theorem dX5_walk_5 : decode cX5_walk 5 = .ok (.invokestatic 113, 3) := by decide +kernel
theorem dX5_walk_8 : decode cX5_walk 8 = .ok (.iload_n 1, 1) := by decide +kernel
theorem dX5_walk_9 : decode cX5_walk 9 = .ok (.iload_n 2, 1) := by decide +kernel
theorem dX5_walk_10 : decode cX5_walk 10 = .ok (.if_icmp .ne 13, 3) := by decide +kernel
theorem dX5_walk_13 : decode cX5_walk 13 = .ok (.new 67, 3) := by decide +kernel
theorem dX5_walk_16 : decode cX5_walk 16 = .ok (.dup, 1) := by decide +kernel
theorem dX5_walk_17 : decode cX5_walk 17 = .ok (.ldc 235, 2) := by decide +kernel
theorem dX5_walk_19 : decode cX5_walk 19 = .ok (.invokespecial 71, 3) := by decide +kernel
theorem dX5_walk_22 : decode cX5_walk 22 = .ok (.athrow, 1) := by decide +kernel
theorem dX5_walk_23 : decode cX5_walk 23 = .ok (.aload_n 0, 1) := by decide +kernel
theorem dX5_walk_24 : decode cX5_walk 24 = .ok (.getfield 12, 3) := by decide +kernel
theorem dX5_walk_27 : decode cX5_walk 27 = .ok (.getfield 116, 3) := by decide +kernel
theorem dX5_walk_30 : decode cX5_walk 30 = .ok (.iload_n 1, 1) := by decide +kernel
theorem dX5_walk_31 : decode cX5_walk 31 = .ok (.iaload, 1) := by decide +kernel
theorem dX5_walk_32 : decode cX5_walk 32 = .ok (.iconst (-1), 1) := by decide +kernel
theorem dX5_walk_33 : decode cX5_walk 33 = .ok (.if_icmp .eq 16, 3) := by decide +kernel
theorem dX5_walk_36 : decode cX5_walk 36 = .ok (.aload_n 0, 1) := by decide +kernel
theorem dX5_walk_37 : decode cX5_walk 37 = .ok (.getfield 12, 3) := by decide +kernel
theorem dX5_walk_40 : decode cX5_walk 40 = .ok (.getfield 116, 3) := by decide +kernel
theorem dX5_walk_43 : decode cX5_walk 43 = .ok (.iload_n 2, 1) := by decide +kernel
theorem dX5_walk_44 : decode cX5_walk 44 = .ok (.iaload, 1) := by decide +kernel
theorem dX5_walk_45 : decode cX5_walk 45 = .ok (.iconst (-1), 1) := by decide +kernel
theorem dX5_walk_46 : decode cX5_walk 46 = .ok (.if_icmp .ne 13, 3) := by decide +kernel
theorem dX5_walk_49 : decode cX5_walk 49 = .ok (.new 86, 3) := by decide +kernel
theorem dX5_walk_52 : decode cX5_walk 52 = .ok (.dup, 1) := by decide +kernel
theorem dX5_walk_53 : decode cX5_walk 53 = .ok (.ldc 237, 2) := by decide +kernel
theorem dX5_walk_55 : decode cX5_walk 55 = .ok (.invokespecial 90, 3) := by decide +kernel
theorem dX5_walk_58 : decode cX5_walk 58 = .ok (.athrow, 1) := by decide +kernel
theorem dX5_walk_59 : decode cX5_walk 59 = .ok (.aload_n 0, 1) := by decide +kernel
theorem dX5_walk_60 : decode cX5_walk 60 = .ok (.getfield 12, 3) := by decide +kernel
theorem dX5_walk_63 : decode cX5_walk 63 = .ok (.getfield 116, 3) := by decide +kernel
theorem dX5_walk_66 : decode cX5_walk 66 = .ok (.iload_n 1, 1) := by decide +kernel
theorem dX5_walk_67 : decode cX5_walk 67 = .ok (.iaload, 1) := by decide +kernel
theorem dX5_walk_68 : decode cX5_walk 68 = .ok (.istore_n 3, 1) := by decide +kernel
theorem dX5_walk_69 : decode cX5_walk 69 = .ok (.iconst 0, 1) := by decide +kernel
theorem dX5_walk_70 : decode cX5_walk 70 = .ok (.istore 4, 2) := by decide +kernel
theorem dX5_walk_72 : decode cX5_walk 72 = .ok (.iconst 1, 1) := by decide +kernel
theorem dX5_walk_73 : decode cX5_walk 73 = .ok (.istore 5, 2) := by decide +kernel
theorem dX5_walk_75 : decode cX5_walk 75 = .ok (.iload 5, 2) := by decide +kernel
theorem dX5_walk_77 : decode cX5_walk 77 = .ok (.bipush 12, 2) := by decide +kernel
theorem dX5_walk_79 : decode cX5_walk 79 = .ok (.if_icmp .gt 106, 3) := by decide +kernel
theorem dX5_walk_82 : decode cX5_walk 82 = .ok (.aload_n 0, 1) := by decide +kernel
theorem dX5_walk_83 : decode cX5_walk 83 = .ok (.iload_n 3, 1) := by decide +kernel
theorem dX5_walk_84 : decode cX5_walk 84 = .ok (.iload 4, 2) := by decide +kernel
theorem dX5_walk_86 : decode cX5_walk 86 = .ok (.invokevirtual 239, 3) := by decide +kernel
theorem dX5_walk_89 : decode cX5_walk 89 = .ok (.istore 6, 2) := by decide +kernel
theorem dX5_walk_91 : decode cX5_walk 91 = .ok (.iload 6, 2) := by decide +kernel
theorem dX5_walk_93 : decode cX5_walk 93 = .ok (.ifCond .ne 7, 3) := by decide +kernel
theorem dX5_walk_96 : decode cX5_walk 96 = .ok (.iconst (-1), 1) := by decide +kernel
theorem dX5_walk_97 : decode cX5_walk 97 = .ok (.goto 13, 3) := by decide +kernel
theorem dX5_walk_100 : decode cX5_walk 100 = .ok (.aload_n 0, 1) := by decide +kernel
theorem dX5_walk_101 : decode cX5_walk 101 = .ok (.iload_n 3, 1) := by decide +kernel
theorem dX5_walk_102 : decode cX5_walk 102 = .ok (.iconst 5, 1) := by decide +kernel
theorem dX5_walk_103 : decode cX5_walk 103 = .ok (.idiv, 1) := by decide +kernel
theorem dX5_walk_104 : decode cX5_walk 104 = .ok (.iload 6, 2) := by decide +kernel
theorem dX5_walk_106 : decode cX5_walk 106 = .ok (.iload_n 2, 1) := by decide +kernel
theorem dX5_walk_107 : decode cX5_walk 107 = .ok (.invokevirtual 242, 3) := by decide +kernel
theorem dX5_walk_110 : decode cX5_walk 110 = .ok (.istore 7, 2) := by decide +kernel
theorem dX5_walk_112 : decode cX5_walk 112 = .ok (.iload 7, 2) := by decide +kernel
theorem dX5_walk_114 : decode cX5_walk 114 = .ok (.iconst (-1), 1) := by decide +kernel
theorem dX5_walk_115 : decode cX5_walk 115 = .ok (.if_icmp .ne 5, 3) := by decide +kernel
theorem dX5_walk_118 : decode cX5_walk 118 = .ok (.iconst (-1), 1) := by decide +kernel
theorem dX5_walk_119 : decode cX5_walk 119 = .ok (.ireturn, 1) := by decide +kernel
theorem dX5_walk_120 : decode cX5_walk 120 = .ok (.aload_n 0, 1) := by decide +kernel
theorem dX5_walk_121 : decode cX5_walk 121 = .ok (.getfield 12, 3) := by decide +kernel
theorem dX5_walk_124 : decode cX5_walk 124 = .ok (.getfield 99, 3) := by decide +kernel
theorem dX5_walk_127 : decode cX5_walk 127 = .ok (.iload 7, 2) := by decide +kernel
theorem dX5_walk_129 : decode cX5_walk 129 = .ok (.iaload, 1) := by decide +kernel
theorem dX5_walk_130 : decode cX5_walk 130 = .ok (.iconst (-1), 1) := by decide +kernel
theorem dX5_walk_131 : decode cX5_walk 131 = .ok (.if_icmp .ne 24, 3) := by decide +kernel
theorem dX5_walk_134 : decode cX5_walk 134 = .ok (.aload_n 0, 1) := by decide +kernel
theorem dX5_walk_135 : decode cX5_walk 135 = .ok (.getfield 12, 3) := by decide +kernel
theorem dX5_walk_138 : decode cX5_walk 138 = .ok (.getfield 245, 3) := by decide +kernel
theorem dX5_walk_141 : decode cX5_walk 141 = .ok (.iload 7, 2) := by decide +kernel
theorem dX5_walk_143 : decode cX5_walk 143 = .ok (.iaload, 1) := by decide +kernel
theorem dX5_walk_144 : decode cX5_walk 144 = .ok (.iload_n 2, 1) := by decide +kernel
theorem dX5_walk_145 : decode cX5_walk 145 = .ok (.if_icmp .ne 8, 3) := by decide +kernel
theorem dX5_walk_148 : decode cX5_walk 148 = .ok (.iload 5, 2) := by decide +kernel
theorem dX5_walk_150 : decode cX5_walk 150 = .ok (.goto 4, 3) := by decide +kernel
theorem dX5_walk_153 : decode cX5_walk 153 = .ok (.iconst (-1), 1) := by decide +kernel
theorem dX5_walk_154 : decode cX5_walk 154 = .ok (.ireturn, 1) := by decide +kernel
theorem dX5_walk_155 : decode cX5_walk 155 = .ok (.aload_n 0, 1) := by decide +kernel
theorem dX5_walk_156 : decode cX5_walk 156 = .ok (.getfield 31, 3) := by decide +kernel
theorem dX5_walk_159 : decode cX5_walk 159 = .ok (.iload 7, 2) := by decide +kernel
theorem dX5_walk_161 : decode cX5_walk 161 = .ok (.iload 6, 2) := by decide +kernel
theorem dX5_walk_163 : decode cX5_walk 163 = .ok (.invokevirtual 248, 3) := by decide +kernel
theorem dX5_walk_166 : decode cX5_walk 166 = .ok (.istore 4, 2) := by decide +kernel
theorem dX5_walk_168 : decode cX5_walk 168 = .ok (.aload_n 0, 1) := by decide +kernel
theorem dX5_walk_169 : decode cX5_walk 169 = .ok (.getfield 12, 3) := by decide +kernel
theorem dX5_walk_172 : decode cX5_walk 172 = .ok (.getfield 99, 3) := by decide +kernel
theorem dX5_walk_175 : decode cX5_walk 175 = .ok (.iload 7, 2) := by decide +kernel
theorem dX5_walk_177 : decode cX5_walk 177 = .ok (.iaload, 1) := by decide +kernel
theorem dX5_walk_178 : decode cX5_walk 178 = .ok (.istore_n 3, 1) := by decide +kernel
theorem dX5_walk_179 : decode cX5_walk 179 = .ok (.iinc 5 1, 3) := by decide +kernel
theorem dX5_walk_182 : decode cX5_walk 182 = .ok (.goto (-107), 3) := by decide +kernel
theorem dX5_walk_185 : decode cX5_walk 185 = .ok (.iconst (-1), 1) := by decide +kernel
theorem dX5_walk_186 : decode cX5_walk 186 = .ok (.ireturn, 1) := by decide +kernel
theorem dX5_needSwitch_0 : decode cX5_needSwitch 0 = .ok (.iload_n 0, 1) := by decide +kernel
theorem dX5_needSwitch_1 : decode cX5_needSwitch 1 = .ok (.ifCond .lt 9, 3) := by decide +kernel
theorem dX5_needSwitch_4 : decode cX5_needSwitch 4 = .ok (.iload_n 0, 1) := by decide +kernel
theorem dX5_needSwitch_5 : decode cX5_needSwitch 5 = .ok (.bipush 6, 2) := by decide +kernel
theorem dX5_needSwitch_7 : decode cX5_needSwitch 7 = .ok (.if_icmp .lt 13, 3) := by decide +kernel
theorem dX5_needSwitch_10 : decode cX5_needSwitch 10 = .ok (.new 251, 3) := by decide +kernel
theorem dX5_needSwitch_13 : decode cX5_needSwitch 13 = .ok (.dup, 1) := by decide +kernel
theorem dX5_needSwitch_14 : decode cX5_needSwitch 14 = .ok (.ldc 253, 2) := by decide +kernel
theorem dX5_needSwitch_16 : decode cX5_needSwitch 16 = .ok (.invokespecial 255, 3) := by decide +kernel
theorem dX5_needSwitch_19 : decode cX5_needSwitch 19 = .ok (.athrow, 1) := by decide +kernel
theorem dX5_needSwitch_20 : decode cX5_needSwitch 20 = .ok (.return_, 1) := by decide +kernel
set_option maxRecDepth 20000 in
theorem ggX5_needPort_X5_needSwitch : GoodIn wsX5_needPort wsX5_needSwitch := goodIn_ca (goodIn_r _ [6, 1, 2] (by decide +kernel) (by decide +kernel)) (goodIn_sub (fun _ h => List.mem_cons_of_mem _ (List.mem_append_right _ h)) (by decide +kernel))
set_option maxRecDepth 20000 in
theorem gX5_needPort_X5_needSwitch : GoodIn wsX5_needPort (va_wsS RX5 130 yX5_needSwitch wsX5_needSwitch) := goodIn_app (goodIn_of _ (by decide +kernel)) ggX5_needPort_X5_needSwitch
theorem dX5_needPort_0 : decode cX5_needPort 0 = .ok (.iload_n 0, 1) := by decide +kernel
theorem dX5_needPort_1 : decode cX5_needPort 1 = .ok (.invokestatic 130, 3) := by decide +kernel
theorem dX5_needPort_4 : decode cX5_needPort 4 = .ok (.iload_n 1, 1) := by decide +kernel
theorem dX5_needPort_5 : decode cX5_needPort 5 = .ok (.ifCond .lt 8, 3) := by decide +kernel
theorem dX5_needPort_8 : decode cX5_needPort 8 = .ok (.iload_n 1, 1) := by decide +kernel
theorem dX5_needPort_9 : decode cX5_needPort 9 = .ok (.iconst 5, 1) := by decide +kernel
theorem dX5_needPort_10 : decode cX5_needPort 10 = .ok (.if_icmp .lt 14, 3) := by decide +kernel
theorem dX5_needPort_13 : decode cX5_needPort 13 = .ok (.new 251, 3) := by decide +kernel
theorem dX5_needPort_16 : decode cX5_needPort 16 = .ok (.dup, 1) := by decide +kernel
theorem dX5_needPort_17 : decode cX5_needPort 17 = .ok (.ldc_w 256, 3) := by decide +kernel
theorem dX5_needPort_20 : decode cX5_needPort 20 = .ok (.invokespecial 255, 3) := by decide +kernel
theorem dX5_needPort_23 : decode cX5_needPort 23 = .ok (.athrow, 1) := by decide +kernel
theorem dX5_needPort_24 : decode cX5_needPort 24 = .ok (.return_, 1) := by decide +kernel
theorem dX5_needHouse_0 : decode cX5_needHouse 0 = .ok (.iload_n 0, 1) := by decide +kernel
theorem dX5_needHouse_1 : decode cX5_needHouse 1 = .ok (.ifCond .lt 9, 3) := by decide +kernel
theorem dX5_needHouse_4 : decode cX5_needHouse 4 = .ok (.iload_n 0, 1) := by decide +kernel
theorem dX5_needHouse_5 : decode cX5_needHouse 5 = .ok (.bipush 10, 2) := by decide +kernel
theorem dX5_needHouse_7 : decode cX5_needHouse 7 = .ok (.if_icmp .lt 14, 3) := by decide +kernel
theorem dX5_needHouse_10 : decode cX5_needHouse 10 = .ok (.new 251, 3) := by decide +kernel
theorem dX5_needHouse_13 : decode cX5_needHouse 13 = .ok (.dup, 1) := by decide +kernel
theorem dX5_needHouse_14 : decode cX5_needHouse 14 = .ok (.ldc_w 258, 3) := by decide +kernel
theorem dX5_needHouse_17 : decode cX5_needHouse 17 = .ok (.invokespecial 255, 3) := by decide +kernel
theorem dX5_needHouse_20 : decode cX5_needHouse 20 = .ok (.athrow, 1) := by decide +kernel
theorem dX5_needHouse_21 : decode cX5_needHouse 21 = .ok (.return_, 1) := by decide +kernel
theorem dX5_needLane_0 : decode cX5_needLane 0 = .ok (.iload_n 0, 1) := by decide +kernel
theorem dX5_needLane_1 : decode cX5_needLane 1 = .ok (.iconst 1, 1) := by decide +kernel
theorem dX5_needLane_2 : decode cX5_needLane 2 = .ok (.if_icmp .lt 8, 3) := by decide +kernel
theorem dX5_needLane_5 : decode cX5_needLane 5 = .ok (.iload_n 0, 1) := by decide +kernel
theorem dX5_needLane_6 : decode cX5_needLane 6 = .ok (.iconst 3, 1) := by decide +kernel
theorem dX5_needLane_7 : decode cX5_needLane 7 = .ok (.if_icmp .le 14, 3) := by decide +kernel
theorem dX5_needLane_10 : decode cX5_needLane 10 = .ok (.new 251, 3) := by decide +kernel
theorem dX5_needLane_13 : decode cX5_needLane 13 = .ok (.dup, 1) := by decide +kernel
theorem dX5_needLane_14 : decode cX5_needLane 14 = .ok (.ldc_w 260, 3) := by decide +kernel
theorem dX5_needLane_17 : decode cX5_needLane 17 = .ok (.invokespecial 255, 3) := by decide +kernel
theorem dX5_needLane_20 : decode cX5_needLane 20 = .ok (.athrow, 1) := by decide +kernel
theorem dX5_needLane_21 : decode cX5_needLane 21 = .ok (.return_, 1) := by decide +kernel
theorem dX5_needWithin_0 : decode cX5_needWithin 0 = .ok (.iload_n 0, 1) := by decide +kernel
theorem dX5_needWithin_1 : decode cX5_needWithin 1 = .ok (.iload_n 1, 1) := by decide +kernel
theorem dX5_needWithin_2 : decode cX5_needWithin 2 = .ok (.if_icmp .lt 8, 3) := by decide +kernel
theorem dX5_needWithin_5 : decode cX5_needWithin 5 = .ok (.iload_n 0, 1) := by decide +kernel
theorem dX5_needWithin_6 : decode cX5_needWithin 6 = .ok (.iload_n 2, 1) := by decide +kernel
theorem dX5_needWithin_7 : decode cX5_needWithin 7 = .ok (.if_icmp .le 14, 3) := by decide +kernel
theorem dX5_needWithin_10 : decode cX5_needWithin 10 = .ok (.new 67, 3) := by decide +kernel
theorem dX5_needWithin_13 : decode cX5_needWithin 13 = .ok (.dup, 1) := by decide +kernel
theorem dX5_needWithin_14 : decode cX5_needWithin 14 = .ok (.ldc_w 262, 3) := by decide +kernel
theorem dX5_needWithin_17 : decode cX5_needWithin 17 = .ok (.invokespecial 71, 3) := by decide +kernel
theorem dX5_needWithin_20 : decode cX5_needWithin 20 = .ok (.athrow, 1) := by decide +kernel
theorem dX5_needWithin_21 : decode cX5_needWithin 21 = .ok (.return_, 1) := by decide +kernel
theorem dX5_spotOf_0 : decode cX5_spotOf 0 = .ok (.iload_n 0, 1) := by decide +kernel
theorem dX5_spotOf_1 : decode cX5_spotOf 1 = .ok (.iconst 5, 1) := by decide +kernel
theorem dX5_spotOf_2 : decode cX5_spotOf 2 = .ok (.imul, 1) := by decide +kernel
theorem dX5_spotOf_3 : decode cX5_spotOf 3 = .ok (.iload_n 1, 1) := by decide +kernel
theorem dX5_spotOf_4 : decode cX5_spotOf 4 = .ok (.iadd, 1) := by decide +kernel
theorem dX5_spotOf_5 : decode cX5_spotOf 5 = .ok (.ireturn, 1) := by decide +kernel
set_option maxRecDepth 20000 in
theorem ggX5_dropUse_X3_close : GoodIn wsX5_dropUse wsX3_close := goodIn_r _ [7, 8, 9, 10, 32, 33, 34, 35, 36, 37, 38, 39, 40, 41, 42, 43, 44, 45, 46, 47] (by decide +kernel) (by decide +kernel)
set_option maxRecDepth 20000 in
theorem gX5_dropUse_X3_close : GoodIn wsX5_dropUse (wsV RX5 264 RX3 yX3_close wsX3_close) := goodIn_app (goodIn_of _ (by decide +kernel)) ggX5_dropUse_X3_close
set_option maxRecDepth 20000 in
theorem ggX5_dropUse_X2_forgetPort : GoodIn wsX5_dropUse wsX2_forgetPort := goodIn_r _ [15, 16, 17, 18, 19, 14, 20, 21, 48, 49, 50] (by decide +kernel) (by decide +kernel)
set_option maxRecDepth 20000 in
theorem gX5_dropUse_X2_forgetPort : GoodIn wsX5_dropUse (wsV RX5 267 RX2 yX2_forgetPort wsX2_forgetPort) := goodIn_app (goodIn_of _ (by decide +kernel)) ggX5_dropUse_X2_forgetPort
theorem dX5_dropUse_0 : decode cX5_dropUse 0 = .ok (.aload_n 0, 1) := by decide +kernel
theorem dX5_dropUse_1 : decode cX5_dropUse 1 = .ok (.getfield 21, 3) := by decide +kernel
theorem dX5_dropUse_4 : decode cX5_dropUse 4 = .ok (.iload_n 1, 1) := by decide +kernel
theorem dX5_dropUse_5 : decode cX5_dropUse 5 = .ok (.invokevirtual 264, 3) := by decide +kernel
theorem dX5_dropUse_8 : decode cX5_dropUse 8 = .ok (.aload_n 0, 1) := by decide +kernel
theorem dX5_dropUse_9 : decode cX5_dropUse 9 = .ok (.getfield 38, 3) := by decide +kernel
theorem dX5_dropUse_12 : decode cX5_dropUse 12 = .ok (.iload_n 1, 1) := by decide +kernel
theorem dX5_dropUse_13 : decode cX5_dropUse 13 = .ok (.invokevirtual 267, 3) := by decide +kernel
theorem dX5_dropUse_16 : decode cX5_dropUse 16 = .ok (.return_, 1) := by decide +kernel
set_option maxRecDepth 20000 in
theorem ggX5_shutUntil_X3_beginShut : GoodIn wsX5_shutUntil wsX3_beginShut := goodIn_r _ [7, 8, 9, 10, 11, 6, 12, 13, 14, 15, 37, 38, 39, 40, 41, 42, 43, 44, 45, 46, 47, 48, 49, 50, 51, 52] (by decide +kernel) (by decide +kernel)
set_option maxRecDepth 20000 in
theorem gX5_shutUntil_X3_beginShut : GoodIn wsX5_shutUntil (wsV RX5 270 RX3 yX3_beginShut wsX3_beginShut) := goodIn_app (goodIn_of _ (by decide +kernel)) ggX5_shutUntil_X3_beginShut
set_option maxRecDepth 20000 in
theorem ggX5_shutUntil_X2_forgetPort : GoodIn wsX5_shutUntil wsX2_forgetPort := goodIn_r _ [20, 21, 22, 23, 24, 19, 25, 26, 53, 54, 55] (by decide +kernel) (by decide +kernel)
set_option maxRecDepth 20000 in
theorem gX5_shutUntil_X2_forgetPort : GoodIn wsX5_shutUntil (wsV RX5 267 RX2 yX2_forgetPort wsX2_forgetPort) := goodIn_app (goodIn_of _ (by decide +kernel)) ggX5_shutUntil_X2_forgetPort
theorem dX5_shutUntil_0 : decode cX5_shutUntil 0 = .ok (.aload_n 0, 1) := by decide +kernel
theorem dX5_shutUntil_1 : decode cX5_shutUntil 1 = .ok (.getfield 21, 3) := by decide +kernel
theorem dX5_shutUntil_4 : decode cX5_shutUntil 4 = .ok (.iload_n 1, 1) := by decide +kernel
theorem dX5_shutUntil_5 : decode cX5_shutUntil 5 = .ok (.iload_n 2, 1) := by decide +kernel
theorem dX5_shutUntil_6 : decode cX5_shutUntil 6 = .ok (.invokevirtual 270, 3) := by decide +kernel
theorem dX5_shutUntil_9 : decode cX5_shutUntil 9 = .ok (.aload_n 0, 1) := by decide +kernel
theorem dX5_shutUntil_10 : decode cX5_shutUntil 10 = .ok (.getfield 38, 3) := by decide +kernel
theorem dX5_shutUntil_13 : decode cX5_shutUntil 13 = .ok (.iload_n 1, 1) := by decide +kernel
theorem dX5_shutUntil_14 : decode cX5_shutUntil 14 = .ok (.invokevirtual 267, 3) := by decide +kernel
theorem dX5_shutUntil_17 : decode cX5_shutUntil 17 = .ok (.return_, 1) := by decide +kernel
set_option maxRecDepth 20000 in
theorem ggX5_passBeat_X3_pass : GoodIn wsX5_passBeat wsX3_pass := goodIn_r _ [11, 12, 13, 14, 15, 16, 10, 17, 18, 19, 20, 21, 22, 23, 24, 25, 26, 27, 28, 29, 30, 31, 32, 33, 34, 35, 36, 37, 38, 39, 40, 41, 42, 43, 44, 45, 46, 47, 48, 49, 50, 51, 52, 53, 54, 55, 56, 57, 58, 59, 60, 61, 62, 63, 64, 65, 66, 67, 68, 69, 70, 71, 72, 73, 74, 75, 76, 77, 78, 79, 80, 81, 82, 83, 84, 85, 86, 87, 88, 89, 90, 91, 92, 93, 94, 95, 96, 97, 98, 99, 100, 101, 102, 103, 104, 105, 106, 107, 138, 139, 140, 141, 142, 143, 144, 145, 146, 147, 148, 149, 150, 151, 152, 153, 154, 155, 156, 157, 158, 159, 160, 161] (by decide +kernel) (by decide +kernel)
set_option maxRecDepth 20000 in
theorem gX5_passBeat_X3_pass : GoodIn wsX5_passBeat (wsV RX5 214 RX3 yX3_pass wsX3_pass) := goodIn_app (goodIn_of _ (by decide +kernel)) ggX5_passBeat_X3_pass
set_option maxRecDepth 20000 in
theorem ggX5_passBeat_X2_forgetPort : GoodIn wsX5_passBeat wsX2_forgetPort := goodIn_r _ [112, 113, 114, 115, 116, 111, 117, 118, 162, 163, 164] (by decide +kernel) (by decide +kernel)
set_option maxRecDepth 20000 in
theorem gX5_passBeat_X2_forgetPort : GoodIn wsX5_passBeat (wsV RX5 267 RX2 yX2_forgetPort wsX2_forgetPort) := goodIn_app (goodIn_of _ (by decide +kernel)) ggX5_passBeat_X2_forgetPort
set_option maxRecDepth 20000 in
theorem ggX5_passBeat_X2_empty : GoodIn wsX5_passBeat wsX2_empty := goodIn_r _ [122, 113, 118, 162, 163, 164] (by decide +kernel) (by decide +kernel)
set_option maxRecDepth 20000 in
theorem gX5_passBeat_X2_empty : GoodIn wsX5_passBeat (wsV RX5 279 RX2 yX2_empty wsX2_empty) := goodIn_app (goodIn_of _ (by decide +kernel)) ggX5_passBeat_X2_empty
set_option maxRecDepth 20000 in
theorem ggX5_passBeat_X2_dropOld : GoodIn wsX5_passBeat wsX2_dropOld := goodIn_r _ [126, 113, 127, 114, 115, 116, 111, 117, 118, 162, 163, 164] (by decide +kernel) (by decide +kernel)
set_option maxRecDepth 20000 in
theorem gX5_passBeat_X2_dropOld : GoodIn wsX5_passBeat (wsV RX5 282 RX2 yX2_dropOld wsX2_dropOld) := goodIn_app (goodIn_of _ (by decide +kernel)) ggX5_passBeat_X2_dropOld
theorem dX5_passBeat_0 : decode cX5_passBeat 0 = .ok (.aload_n 0, 1) := by decide +kernel
theorem dX5_passBeat_1 : decode cX5_passBeat 1 = .ok (.getfield 21, 3) := by decide +kernel
theorem dX5_passBeat_4 : decode cX5_passBeat 4 = .ok (.invokevirtual 214, 3) := by decide +kernel
theorem dX5_passBeat_7 : decode cX5_passBeat 7 = .ok (.iconst 0, 1) := by decide +kernel
theorem dX5_passBeat_8 : decode cX5_passBeat 8 = .ok (.istore_n 1, 1) := by decide +kernel
theorem dX5_passBeat_9 : decode cX5_passBeat 9 = .ok (.iload_n 1, 1) := by decide +kernel
theorem dX5_passBeat_10 : decode cX5_passBeat 10 = .ok (.bipush 30, 2) := by decide +kernel
theorem dX5_passBeat_12 : decode cX5_passBeat 12 = .ok (.if_icmp .ge 36, 3) := by decide +kernel
theorem dX5_passBeat_15 : decode cX5_passBeat 15 = .ok (.aload_n 0, 1) := by decide +kernel
theorem dX5_passBeat_16 : decode cX5_passBeat 16 = .ok (.getfield 49, 3) := by decide +kernel
theorem dX5_passBeat_19 : decode cX5_passBeat 19 = .ok (.iload_n 1, 1) := by decide +kernel
theorem dX5_passBeat_20 : decode cX5_passBeat 20 = .ok (.iconst 0, 1) := by decide +kernel
theorem dX5_passBeat_21 : decode cX5_passBeat 21 = .ok (.iastore, 1) := by decide +kernel
theorem dX5_passBeat_22 : decode cX5_passBeat 22 = .ok (.aload_n 0, 1) := by decide +kernel
theorem dX5_passBeat_23 : decode cX5_passBeat 23 = .ok (.getfield 21, 3) := by decide +kernel
theorem dX5_passBeat_26 : decode cX5_passBeat 26 = .ok (.getfield 273, 3) := by decide +kernel
theorem dX5_passBeat_29 : decode cX5_passBeat 29 = .ok (.iload_n 1, 1) := by decide +kernel
theorem dX5_passBeat_30 : decode cX5_passBeat 30 = .ok (.baload, 1) := by decide +kernel
theorem dX5_passBeat_31 : decode cX5_passBeat 31 = .ok (.ifCond .eq 11, 3) := by decide +kernel
theorem dX5_passBeat_34 : decode cX5_passBeat 34 = .ok (.aload_n 0, 1) := by decide +kernel
theorem dX5_passBeat_35 : decode cX5_passBeat 35 = .ok (.getfield 38, 3) := by decide +kernel
theorem dX5_passBeat_38 : decode cX5_passBeat 38 = .ok (.iload_n 1, 1) := by decide +kernel
theorem dX5_passBeat_39 : decode cX5_passBeat 39 = .ok (.invokevirtual 267, 3) := by decide +kernel
theorem dX5_passBeat_42 : decode cX5_passBeat 42 = .ok (.iinc 1 1, 3) := by decide +kernel
theorem dX5_passBeat_45 : decode cX5_passBeat 45 = .ok (.goto (-36), 3) := by decide +kernel
theorem dX5_passBeat_48 : decode cX5_passBeat 48 = .ok (.iconst 0, 1) := by decide +kernel
theorem dX5_passBeat_49 : decode cX5_passBeat 49 = .ok (.istore_n 1, 1) := by decide +kernel
theorem dX5_passBeat_50 : decode cX5_passBeat 50 = .ok (.iload_n 1, 1) := by decide +kernel
theorem dX5_passBeat_51 : decode cX5_passBeat 51 = .ok (.bipush 6, 2) := by decide +kernel
theorem dX5_passBeat_53 : decode cX5_passBeat 53 = .ok (.if_icmp .ge 29, 3) := by decide +kernel
theorem dX5_passBeat_56 : decode cX5_passBeat 56 = .ok (.aload_n 0, 1) := by decide +kernel
theorem dX5_passBeat_57 : decode cX5_passBeat 57 = .ok (.getfield 21, 3) := by decide +kernel
theorem dX5_passBeat_60 : decode cX5_passBeat 60 = .ok (.getfield 276, 3) := by decide +kernel
theorem dX5_passBeat_63 : decode cX5_passBeat 63 = .ok (.iload_n 1, 1) := by decide +kernel
theorem dX5_passBeat_64 : decode cX5_passBeat 64 = .ok (.baload, 1) := by decide +kernel
theorem dX5_passBeat_65 : decode cX5_passBeat 65 = .ok (.ifCond .eq 11, 3) := by decide +kernel
theorem dX5_passBeat_68 : decode cX5_passBeat 68 = .ok (.aload_n 0, 1) := by decide +kernel
theorem dX5_passBeat_69 : decode cX5_passBeat 69 = .ok (.getfield 38, 3) := by decide +kernel
theorem dX5_passBeat_72 : decode cX5_passBeat 72 = .ok (.iload_n 1, 1) := by decide +kernel
theorem dX5_passBeat_73 : decode cX5_passBeat 73 = .ok (.invokevirtual 279, 3) := by decide +kernel
theorem dX5_passBeat_76 : decode cX5_passBeat 76 = .ok (.iinc 1 1, 3) := by decide +kernel
theorem dX5_passBeat_79 : decode cX5_passBeat 79 = .ok (.goto (-29), 3) := by decide +kernel
theorem dX5_passBeat_82 : decode cX5_passBeat 82 = .ok (.aload_n 0, 1) := by decide +kernel
theorem dX5_passBeat_83 : decode cX5_passBeat 83 = .ok (.getfield 38, 3) := by decide +kernel
theorem dX5_passBeat_86 : decode cX5_passBeat 86 = .ok (.aload_n 0, 1) := by decide +kernel
theorem dX5_passBeat_87 : decode cX5_passBeat 87 = .ok (.getfield 21, 3) := by decide +kernel
theorem dX5_passBeat_90 : decode cX5_passBeat 90 = .ok (.getfield 160, 3) := by decide +kernel
theorem dX5_passBeat_93 : decode cX5_passBeat 93 = .ok (.invokevirtual 282, 3) := by decide +kernel
theorem dX5_passBeat_96 : decode cX5_passBeat 96 = .ok (.return_, 1) := by decide +kernel
set_option maxRecDepth 20000 in
theorem ggX5_laneLetIn_X0_laneIn : GoodIn wsX5_laneLetIn wsX0_laneIn := goodIn_r _ [8, 9, 10, 11, 12, 7, 13, 14, 15, 16, 17, 44, 45] (by decide +kernel) (by decide +kernel)
set_option maxRecDepth 20000 in
theorem gX5_laneLetIn_X0_laneIn : GoodIn wsX5_laneLetIn (wsV RX5 285 RX0 yX0_laneIn wsX0_laneIn) := goodIn_app (goodIn_of _ (by decide +kernel)) ggX5_laneLetIn_X0_laneIn
theorem dX5_laneLetIn_0 : decode cX5_laneLetIn 0 = .ok (.aload_n 0, 1) := by decide +kernel
theorem dX5_laneLetIn_1 : decode cX5_laneLetIn 1 = .ok (.getfield 21, 3) := by decide +kernel
theorem dX5_laneLetIn_4 : decode cX5_laneLetIn 4 = .ok (.getfield 198, 3) := by decide +kernel
theorem dX5_laneLetIn_7 : decode cX5_laneLetIn 7 = .ok (.iload_n 1, 1) := by decide +kernel
theorem dX5_laneLetIn_8 : decode cX5_laneLetIn 8 = .ok (.baload, 1) := by decide +kernel
theorem dX5_laneLetIn_9 : decode cX5_laneLetIn 9 = .ok (.ifCond .eq 15, 3) := by decide +kernel
theorem dX5_laneLetIn_12 : decode cX5_laneLetIn 12 = .ok (.aload_n 0, 1) := by decide +kernel
theorem dX5_laneLetIn_13 : decode cX5_laneLetIn 13 = .ok (.getfield 31, 3) := by decide +kernel
theorem dX5_laneLetIn_16 : decode cX5_laneLetIn 16 = .ok (.iload_n 1, 1) := by decide +kernel
theorem dX5_laneLetIn_17 : decode cX5_laneLetIn 17 = .ok (.iload_n 2, 1) := by decide +kernel
theorem dX5_laneLetIn_18 : decode cX5_laneLetIn 18 = .ok (.invokevirtual 285, 3) := by decide +kernel
theorem dX5_laneLetIn_21 : decode cX5_laneLetIn 21 = .ok (.goto 4, 3) := by decide +kernel
theorem dX5_laneLetIn_24 : decode cX5_laneLetIn 24 = .ok (.iconst 0, 1) := by decide +kernel
theorem dX5_laneLetIn_25 : decode cX5_laneLetIn 25 = .ok (.ireturn, 1) := by decide +kernel
set_option maxRecDepth 20000 in
theorem ggX5_wayTold_X2_portFor : GoodIn wsX5_wayTold wsX2_portFor := goodIn_r _ [9, 10, 11, 12, 8, 13, 53, 54, 55] (by decide +kernel) (by decide +kernel)
set_option maxRecDepth 20000 in
theorem gX5_wayTold_X2_portFor : GoodIn wsX5_wayTold (wsV RX5 207 RX2 yX2_portFor wsX2_portFor) := goodIn_app (goodIn_of _ (by decide +kernel)) ggX5_wayTold_X2_portFor
set_option maxRecDepth 20000 in
theorem ggX5_wayTold_X5_spotOf : GoodIn wsX5_wayTold wsX5_spotOf := goodIn_r _ [17] (by decide +kernel) (by decide +kernel)
set_option maxRecDepth 20000 in
theorem gX5_wayTold_X5_spotOf : GoodIn wsX5_wayTold (va_wsS RX5 78 yX5_spotOf wsX5_spotOf) := goodIn_app (goodIn_of _ (by decide +kernel)) ggX5_wayTold_X5_spotOf
set_option maxRecDepth 20000 in
theorem ggX5_wayTold_X0_carries : GoodIn wsX5_wayTold wsX0_carries := goodIn_r _ [22, 23, 24, 25, 21, 26, 56, 57] (by decide +kernel) (by decide +kernel)
set_option maxRecDepth 20000 in
theorem gX5_wayTold_X0_carries : GoodIn wsX5_wayTold (wsV RX5 288 RX0 yX0_carries wsX0_carries) := goodIn_app (goodIn_of _ (by decide +kernel)) ggX5_wayTold_X0_carries
theorem dX5_wayTold_0 : decode cX5_wayTold 0 = .ok (.aload_n 0, 1) := by decide +kernel
theorem dX5_wayTold_1 : decode cX5_wayTold 1 = .ok (.getfield 38, 3) := by decide +kernel
theorem dX5_wayTold_4 : decode cX5_wayTold 4 = .ok (.iload_n 1, 1) := by decide +kernel
theorem dX5_wayTold_5 : decode cX5_wayTold 5 = .ok (.iload_n 2, 1) := by decide +kernel
theorem dX5_wayTold_6 : decode cX5_wayTold 6 = .ok (.iload_n 3, 1) := by decide +kernel
theorem dX5_wayTold_7 : decode cX5_wayTold 7 = .ok (.invokevirtual 207, 3) := by decide +kernel
theorem dX5_wayTold_10 : decode cX5_wayTold 10 = .ok (.istore 4, 2) := by decide +kernel
theorem dX5_wayTold_12 : decode cX5_wayTold 12 = .ok (.iload 4, 2) := by decide +kernel
theorem dX5_wayTold_14 : decode cX5_wayTold 14 = .ok (.iconst (-1), 1) := by decide +kernel
theorem dX5_wayTold_15 : decode cX5_wayTold 15 = .ok (.if_icmp .ne 5, 3) := by decide +kernel
theorem dX5_wayTold_18 : decode cX5_wayTold 18 = .ok (.iconst (-1), 1) := by decide +kernel
theorem dX5_wayTold_19 : decode cX5_wayTold 19 = .ok (.ireturn, 1) := by decide +kernel
theorem dX5_wayTold_20 : decode cX5_wayTold 20 = .ok (.iload_n 1, 1) := by decide +kernel
theorem dX5_wayTold_21 : decode cX5_wayTold 21 = .ok (.iload 4, 2) := by decide +kernel
theorem dX5_wayTold_23 : decode cX5_wayTold 23 = .ok (.invokestatic 78, 3) := by decide +kernel
theorem dX5_wayTold_26 : decode cX5_wayTold 26 = .ok (.istore 5, 2) := by decide +kernel
theorem dX5_wayTold_28 : decode cX5_wayTold 28 = .ok (.aload_n 0, 1) := by decide +kernel
theorem dX5_wayTold_29 : decode cX5_wayTold 29 = .ok (.getfield 21, 3) := by decide +kernel
theorem dX5_wayTold_32 : decode cX5_wayTold 32 = .ok (.getfield 198, 3) := by decide +kernel
theorem dX5_wayTold_35 : decode cX5_wayTold 35 = .ok (.iload 5, 2) := by decide +kernel
theorem dX5_wayTold_37 : decode cX5_wayTold 37 = .ok (.baload, 1) := by decide +kernel
theorem dX5_wayTold_38 : decode cX5_wayTold 38 = .ok (.ifCond .eq 21, 3) := by decide +kernel
theorem dX5_wayTold_41 : decode cX5_wayTold 41 = .ok (.aload_n 0, 1) := by decide +kernel
theorem dX5_wayTold_42 : decode cX5_wayTold 42 = .ok (.getfield 31, 3) := by decide +kernel
theorem dX5_wayTold_45 : decode cX5_wayTold 45 = .ok (.iload 5, 2) := by decide +kernel
theorem dX5_wayTold_47 : decode cX5_wayTold 47 = .ok (.iload_n 2, 1) := by decide +kernel
theorem dX5_wayTold_48 : decode cX5_wayTold 48 = .ok (.invokevirtual 288, 3) := by decide +kernel
theorem dX5_wayTold_51 : decode cX5_wayTold 51 = .ok (.ifCond .eq 8, 3) := by decide +kernel
theorem dX5_wayTold_54 : decode cX5_wayTold 54 = .ok (.iload 5, 2) := by decide +kernel
theorem dX5_wayTold_56 : decode cX5_wayTold 56 = .ok (.goto 4, 3) := by decide +kernel
theorem dX5_wayTold_59 : decode cX5_wayTold 59 = .ok (.iconst (-1), 1) := by decide +kernel
theorem dX5_wayTold_60 : decode cX5_wayTold 60 = .ok (.ireturn, 1) := by decide +kernel
set_option maxRecDepth 20000 in
theorem ggX5_takeStep_X5_laneLetIn : GoodIn wsX5_takeStep wsX5_laneLetIn := goodIn_r _ [12, 5, 7, 13, 14, 15, 16, 17, 18, 19, 20, 21, 22, 23, 24, 25, 26, 27, 107, 108, 109, 110, 111, 112, 113, 114, 115, 116, 122, 123, 124, 125, 126, 127, 128, 129, 130, 131, 132, 133, 134, 135, 136, 137, 138, 139] (by decide +kernel) (by decide +kernel)
set_option maxRecDepth 20000 in
theorem gX5_takeStep_X5_laneLetIn : GoodIn wsX5_takeStep (wsV RX5 239 RX5 yX5_laneLetIn wsX5_laneLetIn) := goodIn_app (goodIn_of _ (by decide +kernel)) ggX5_takeStep_X5_laneLetIn
set_option maxRecDepth 20000 in
theorem ggX5_takeStep_X2_hear : GoodIn wsX5_takeStep wsX2_hear := goodIn_r _ [32, 33, 34, 35, 36, 37, 31, 38, 140, 141, 142] (by decide +kernel) (by decide +kernel)
set_option maxRecDepth 20000 in
theorem gX5_takeStep_X2_hear : GoodIn wsX5_takeStep (wsV RX5 297 RX2 yX2_hear wsX2_hear) := goodIn_app (goodIn_of _ (by decide +kernel)) ggX5_takeStep_X2_hear
set_option maxRecDepth 20000 in
theorem ggX5_takeStep_X2_portFor : GoodIn wsX5_takeStep wsX2_portFor := goodIn_r _ [42, 33, 36, 37, 31, 38, 140, 141, 142] (by decide +kernel) (by decide +kernel)
set_option maxRecDepth 20000 in
theorem gX5_takeStep_X2_portFor : GoodIn wsX5_takeStep (wsV RX5 207 RX2 yX2_portFor wsX2_portFor) := goodIn_app (goodIn_of _ (by decide +kernel)) ggX5_takeStep_X2_portFor
set_option maxRecDepth 20000 in
theorem ggX5_takeStep_X5_spotOf : GoodIn wsX5_takeStep wsX5_spotOf := goodIn_r _ [45] (by decide +kernel) (by decide +kernel)
set_option maxRecDepth 20000 in
theorem gX5_takeStep_X5_spotOf : GoodIn wsX5_takeStep (va_wsS RX5 78 yX5_spotOf wsX5_spotOf) := goodIn_app (goodIn_of _ (by decide +kernel)) ggX5_takeStep_X5_spotOf
set_option maxRecDepth 20000 in
theorem ggX5_takeStep_X5_flood : GoodIn wsX5_takeStep wsX5_flood := goodIn_r _ [49, 1, 2, 50, 51, 5, 6, 7, 52, 53, 54, 11, 55, 4, 56, 57, 58, 59, 60, 61, 62, 63, 64, 65, 66, 67, 68, 69, 70, 71, 31, 72, 33, 73, 74, 75, 76, 34, 77, 78, 79, 80, 13, 81, 82, 83, 84, 85, 86, 21, 22, 17, 23, 24, 25, 26, 27, 87, 88, 89, 90, 91, 92, 93, 94, 95, 96, 19, 97, 98, 99, 100, 101, 102, 103, 104, 105, 106, 107, 108, 109, 110, 111, 112, 113, 114, 115, 116, 117, 118, 119, 120, 121, 122, 123, 124, 125, 126, 127, 128, 129, 130, 131, 132, 133, 134, 135, 136, 137, 140, 141, 142, 143, 144, 145, 146, 147, 148, 149, 150, 138, 139] (by decide +kernel) (by decide +kernel)
set_option maxRecDepth 20000 in
theorem gX5_takeStep_X5_flood : GoodIn wsX5_takeStep (wsV RX5 300 RX5 yX5_flood wsX5_flood) := goodIn_app (goodIn_of _ (by decide +kernel)) ggX5_takeStep_X5_flood
set_option maxRecDepth 20000 in
theorem ggX5_takeStep_X5_goOut : GoodIn wsX5_takeStep wsX5_goOut := goodIn_r _ [80, 13, 81, 82, 83, 1, 84, 85, 86, 21, 22, 17, 23, 24, 25, 26, 27, 87, 88, 89, 11, 90, 91, 92, 93, 94, 95, 96, 19, 97, 98, 99, 100, 101, 102, 103, 104, 105, 106, 107, 108, 109, 110, 111, 112, 113, 114, 115, 116, 143, 144, 145, 146, 147, 148, 149, 150, 117, 118, 119, 120, 121, 138, 139] (by decide +kernel) (by decide +kernel)
set_option maxRecDepth 20000 in
theorem gX5_takeStep_X5_goOut : GoodIn wsX5_takeStep (wsV RX5 303 RX5 yX5_goOut wsX5_goOut) := goodIn_app (goodIn_of _ (by decide +kernel)) ggX5_takeStep_X5_goOut
theorem dX5_takeStep_0 : decode cX5_takeStep 0 = .ok (.aload_n 0, 1) := by decide +kernel
theorem dX5_takeStep_1 : decode cX5_takeStep 1 = .ok (.getfield 45, 3) := by decide +kernel
theorem dX5_takeStep_4 : decode cX5_takeStep 4 = .ok (.getfield 291, 3) := by decide +kernel
theorem dX5_takeStep_7 : decode cX5_takeStep 7 = .ok (.iload_n 1, 1) := by decide +kernel
theorem dX5_takeStep_8 : decode cX5_takeStep 8 = .ok (.iaload, 1) := by decide +kernel
theorem dX5_takeStep_9 : decode cX5_takeStep 9 = .ok (.istore 4, 2) := by decide +kernel
theorem dX5_takeStep_11 : decode cX5_takeStep 11 = .ok (.aload_n 0, 1) := by decide +kernel
theorem dX5_takeStep_12 : decode cX5_takeStep 12 = .ok (.iload 4, 2) := by decide +kernel
theorem dX5_takeStep_14 : decode cX5_takeStep 14 = .ok (.aload_n 0, 1) := by decide +kernel
theorem dX5_takeStep_15 : decode cX5_takeStep 15 = .ok (.getfield 45, 3) := by decide +kernel
theorem dX5_takeStep_18 : decode cX5_takeStep 18 = .ok (.getfield 294, 3) := by decide +kernel
theorem dX5_takeStep_21 : decode cX5_takeStep 21 = .ok (.iload_n 1, 1) := by decide +kernel
theorem dX5_takeStep_22 : decode cX5_takeStep 22 = .ok (.iaload, 1) := by decide +kernel
theorem dX5_takeStep_23 : decode cX5_takeStep 23 = .ok (.invokevirtual 239, 3) := by decide +kernel
theorem dX5_takeStep_26 : decode cX5_takeStep 26 = .ok (.istore 5, 2) := by decide +kernel
theorem dX5_takeStep_28 : decode cX5_takeStep 28 = .ok (.iload 5, 2) := by decide +kernel
theorem dX5_takeStep_30 : decode cX5_takeStep 30 = .ok (.ifCond .ne 5, 3) := by decide +kernel
theorem dX5_takeStep_33 : decode cX5_takeStep 33 = .ok (.iconst 0, 1) := by decide +kernel
theorem dX5_takeStep_34 : decode cX5_takeStep 34 = .ok (.ireturn, 1) := by decide +kernel
theorem dX5_takeStep_35 : decode cX5_takeStep 35 = .ok (.iload 4, 2) := by decide +kernel
theorem dX5_takeStep_37 : decode cX5_takeStep 37 = .ok (.iconst 5, 1) := by decide +kernel
theorem dX5_takeStep_38 : decode cX5_takeStep 38 = .ok (.idiv, 1) := by decide +kernel
theorem dX5_takeStep_39 : decode cX5_takeStep 39 = .ok (.istore 6, 2) := by decide +kernel
theorem dX5_takeStep_41 : decode cX5_takeStep 41 = .ok (.aload_n 0, 1) := by decide +kernel
theorem dX5_takeStep_42 : decode cX5_takeStep 42 = .ok (.getfield 38, 3) := by decide +kernel
theorem dX5_takeStep_45 : decode cX5_takeStep 45 = .ok (.iload 4, 2) := by decide +kernel
theorem dX5_takeStep_47 : decode cX5_takeStep 47 = .ok (.iload 5, 2) := by decide +kernel
theorem dX5_takeStep_49 : decode cX5_takeStep 49 = .ok (.iload_n 2, 1) := by decide +kernel
theorem dX5_takeStep_50 : decode cX5_takeStep 50 = .ok (.aload_n 0, 1) := by decide +kernel
theorem dX5_takeStep_51 : decode cX5_takeStep 51 = .ok (.getfield 21, 3) := by decide +kernel
theorem dX5_takeStep_54 : decode cX5_takeStep 54 = .ok (.getfield 160, 3) := by decide +kernel
theorem dX5_takeStep_57 : decode cX5_takeStep 57 = .ok (.invokevirtual 297, 3) := by decide +kernel
theorem dX5_takeStep_60 : decode cX5_takeStep 60 = .ok (.iload_n 3, 1) := by decide +kernel
theorem dX5_takeStep_61 : decode cX5_takeStep 61 = .ok (.bipush 10, 2) := by decide +kernel
theorem dX5_takeStep_63 : decode cX5_takeStep 63 = .ok (.if_icmp .ne 7, 3) := by decide +kernel
theorem dX5_takeStep_66 : decode cX5_takeStep 66 = .ok (.iconst (-1), 1) := by decide +kernel
theorem dX5_takeStep_67 : decode cX5_takeStep 67 = .ok (.goto 15, 3) := by decide +kernel
theorem dX5_takeStep_70 : decode cX5_takeStep 70 = .ok (.aload_n 0, 1) := by decide +kernel
theorem dX5_takeStep_71 : decode cX5_takeStep 71 = .ok (.getfield 38, 3) := by decide +kernel
theorem dX5_takeStep_74 : decode cX5_takeStep 74 = .ok (.iload 6, 2) := by decide +kernel
theorem dX5_takeStep_76 : decode cX5_takeStep 76 = .ok (.iload 5, 2) := by decide +kernel
theorem dX5_takeStep_78 : decode cX5_takeStep 78 = .ok (.iload_n 3, 1) := by decide +kernel
theorem dX5_takeStep_79 : decode cX5_takeStep 79 = .ok (.invokevirtual 207, 3) := by decide +kernel
theorem dX5_takeStep_82 : decode cX5_takeStep 82 = .ok (.istore 7, 2) := by decide +kernel
theorem dX5_takeStep_84 : decode cX5_takeStep 84 = .ok (.iload 7, 2) := by decide +kernel
theorem dX5_takeStep_86 : decode cX5_takeStep 86 = .ok (.iconst (-1), 1) := by decide +kernel
theorem dX5_takeStep_87 : decode cX5_takeStep 87 = .ok (.if_icmp .eq 21, 3) := by decide +kernel
theorem dX5_takeStep_90 : decode cX5_takeStep 90 = .ok (.aload_n 0, 1) := by decide +kernel
theorem dX5_takeStep_91 : decode cX5_takeStep 91 = .ok (.getfield 21, 3) := by decide +kernel
theorem dX5_takeStep_94 : decode cX5_takeStep 94 = .ok (.getfield 198, 3) := by decide +kernel
theorem dX5_takeStep_97 : decode cX5_takeStep 97 = .ok (.iload 6, 2) := by decide +kernel
theorem dX5_takeStep_99 : decode cX5_takeStep 99 = .ok (.iload 7, 2) := by decide +kernel
theorem dX5_takeStep_101 : decode cX5_takeStep 101 = .ok (.invokestatic 78, 3) := by decide +kernel
theorem dX5_takeStep_104 : decode cX5_takeStep 104 = .ok (.baload, 1) := by decide +kernel
theorem dX5_takeStep_105 : decode cX5_takeStep 105 = .ok (.ifCond .ne 12, 3) := by decide +kernel
theorem dX5_takeStep_108 : decode cX5_takeStep 108 = .ok (.aload_n 0, 1) := by decide +kernel
theorem dX5_takeStep_109 : decode cX5_takeStep 109 = .ok (.iload_n 1, 1) := by decide +kernel
theorem dX5_takeStep_110 : decode cX5_takeStep 110 = .ok (.iload 5, 2) := by decide +kernel
theorem dX5_takeStep_112 : decode cX5_takeStep 112 = .ok (.iload_n 3, 1) := by decide +kernel
theorem dX5_takeStep_113 : decode cX5_takeStep 113 = .ok (.invokevirtual 300, 3) := by decide +kernel
theorem dX5_takeStep_116 : decode cX5_takeStep 116 = .ok (.ireturn, 1) := by decide +kernel
theorem dX5_takeStep_117 : decode cX5_takeStep 117 = .ok (.iload 6, 2) := by decide +kernel
theorem dX5_takeStep_119 : decode cX5_takeStep 119 = .ok (.iload 7, 2) := by decide +kernel
theorem dX5_takeStep_121 : decode cX5_takeStep 121 = .ok (.invokestatic 78, 3) := by decide +kernel
theorem dX5_takeStep_124 : decode cX5_takeStep 124 = .ok (.istore 8, 2) := by decide +kernel
theorem dX5_takeStep_126 : decode cX5_takeStep 126 = .ok (.iload 8, 2) := by decide +kernel
theorem dX5_takeStep_128 : decode cX5_takeStep 128 = .ok (.iload 4, 2) := by decide +kernel
theorem dX5_takeStep_130 : decode cX5_takeStep 130 = .ok (.if_icmp .ne 7, 3) := by decide +kernel
theorem dX5_takeStep_133 : decode cX5_takeStep 133 = .ok (.iconst 0, 1) := by decide +kernel
theorem dX5_takeStep_134 : decode cX5_takeStep 134 = .ok (.goto 13, 3) := by decide +kernel
theorem dX5_takeStep_137 : decode cX5_takeStep 137 = .ok (.aload_n 0, 1) := by decide +kernel
theorem dX5_takeStep_138 : decode cX5_takeStep 138 = .ok (.iload 8, 2) := by decide +kernel
theorem dX5_takeStep_140 : decode cX5_takeStep 140 = .ok (.iload_n 1, 1) := by decide +kernel
theorem dX5_takeStep_141 : decode cX5_takeStep 141 = .ok (.iload 5, 2) := by decide +kernel
theorem dX5_takeStep_143 : decode cX5_takeStep 143 = .ok (.iload_n 3, 1) := by decide +kernel
theorem dX5_takeStep_144 : decode cX5_takeStep 144 = .ok (.invokevirtual 303, 3) := by decide +kernel
theorem dX5_takeStep_147 : decode cX5_takeStep 147 = .ok (.ireturn, 1) := by decide +kernel
set_option maxRecDepth 20000 in
theorem ggX5_flood_X5_shutUntil : GoodIn wsX5_flood wsX5_shutUntil := goodIn_r _ [12, 5, 13, 14, 15, 16, 17, 18, 19, 20, 21, 22, 23, 24, 25, 26, 27, 28, 29, 30, 31, 32, 33, 34, 35, 36, 37, 78, 79, 80, 81, 82, 83, 84, 85, 86, 87, 93, 94, 95, 96, 97, 98, 99, 100, 101, 102, 103, 104, 105, 106, 107, 108, 109, 110, 111] (by decide +kernel) (by decide +kernel)
set_option maxRecDepth 20000 in
theorem gX5_flood_X5_shutUntil : GoodIn wsX5_flood (wsV RX5 142 RX5 yX5_shutUntil wsX5_shutUntil) := goodIn_app (goodIn_of _ (by decide +kernel)) ggX5_flood_X5_shutUntil
set_option maxRecDepth 20000 in
theorem ggX5_flood_X5_goOut : GoodIn wsX5_flood wsX5_goOut := goodIn_r _ [41, 42, 43, 44, 45, 1, 46, 47, 48, 49, 50, 51, 52, 53, 54, 55, 56, 57, 58, 59, 11, 60, 61, 62, 63, 64, 65, 66, 67, 68, 69, 70, 71, 72, 73, 74, 75, 76, 77, 78, 79, 80, 81, 82, 83, 84, 85, 86, 87, 112, 113, 114, 115, 116, 117, 118, 119, 88, 89, 90, 91, 92, 120, 121] (by decide +kernel) (by decide +kernel)
set_option maxRecDepth 20000 in
theorem gX5_flood_X5_goOut : GoodIn wsX5_flood (wsV RX5 303 RX5 yX5_goOut wsX5_goOut) := goodIn_app (goodIn_of _ (by decide +kernel)) ggX5_flood_X5_goOut
theorem dX5_flood_0 : decode cX5_flood 0 = .ok (.aload_n 0, 1) := by decide +kernel
theorem dX5_flood_1 : decode cX5_flood 1 = .ok (.getfield 45, 3) := by decide +kernel
theorem dX5_flood_4 : decode cX5_flood 4 = .ok (.getfield 291, 3) := by decide +kernel
theorem dX5_flood_7 : decode cX5_flood 7 = .ok (.iload_n 1, 1) := by decide +kernel
theorem dX5_flood_8 : decode cX5_flood 8 = .ok (.iaload, 1) := by decide +kernel
theorem dX5_flood_9 : decode cX5_flood 9 = .ok (.istore 4, 2) := by decide +kernel
theorem dX5_flood_11 : decode cX5_flood 11 = .ok (.aload_n 0, 1) := by decide +kernel
theorem dX5_flood_12 : decode cX5_flood 12 = .ok (.getfield 49, 3) := by decide +kernel
theorem dX5_flood_15 : decode cX5_flood 15 = .ok (.iload 4, 2) := by decide +kernel
theorem dX5_flood_17 : decode cX5_flood 17 = .ok (.dup2, 1) := by decide +kernel
theorem dX5_flood_18 : decode cX5_flood 18 = .ok (.iaload, 1) := by decide +kernel
theorem dX5_flood_19 : decode cX5_flood 19 = .ok (.iconst 1, 1) := by decide +kernel
theorem dX5_flood_20 : decode cX5_flood 20 = .ok (.iadd, 1) := by decide +kernel
theorem dX5_flood_21 : decode cX5_flood 21 = .ok (.iastore, 1) := by decide +kernel
theorem dX5_flood_22 : decode cX5_flood 22 = .ok (.aload_n 0, 1) := by decide +kernel
theorem dX5_flood_23 : decode cX5_flood 23 = .ok (.getfield 49, 3) := by decide +kernel
theorem dX5_flood_26 : decode cX5_flood 26 = .ok (.iload 4, 2) := by decide +kernel
theorem dX5_flood_28 : decode cX5_flood 28 = .ok (.iaload, 1) := by decide +kernel
theorem dX5_flood_29 : decode cX5_flood 29 = .ok (.aload_n 0, 1) := by decide +kernel
theorem dX5_flood_30 : decode cX5_flood 30 = .ok (.getfield 59, 3) := by decide +kernel
theorem dX5_flood_33 : decode cX5_flood 33 = .ok (.if_icmp .le 20, 3) := by decide +kernel
theorem dX5_flood_36 : decode cX5_flood 36 = .ok (.aload_n 0, 1) := by decide +kernel
theorem dX5_flood_37 : decode cX5_flood 37 = .ok (.iload 4, 2) := by decide +kernel
theorem dX5_flood_39 : decode cX5_flood 39 = .ok (.aload_n 0, 1) := by decide +kernel
theorem dX5_flood_40 : decode cX5_flood 40 = .ok (.getfield 21, 3) := by decide +kernel
theorem dX5_flood_43 : decode cX5_flood 43 = .ok (.getfield 160, 3) := by decide +kernel
theorem dX5_flood_46 : decode cX5_flood 46 = .ok (.iconst 5, 1) := by decide +kernel
theorem dX5_flood_47 : decode cX5_flood 47 = .ok (.iadd, 1) := by decide +kernel
theorem dX5_flood_48 : decode cX5_flood 48 = .ok (.invokevirtual 142, 3) := by decide +kernel
theorem dX5_flood_51 : decode cX5_flood 51 = .ok (.iconst 0, 1) := by decide +kernel
theorem dX5_flood_52 : decode cX5_flood 52 = .ok (.ireturn, 1) := by decide +kernel
theorem dX5_flood_53 : decode cX5_flood 53 = .ok (.iload 4, 2) := by decide +kernel
theorem dX5_flood_55 : decode cX5_flood 55 = .ok (.iload 4, 2) := by decide +kernel
theorem dX5_flood_57 : decode cX5_flood 57 = .ok (.iconst 5, 1) := by decide +kernel
theorem dX5_flood_58 : decode cX5_flood 58 = .ok (.irem, 1) := by decide +kernel
theorem dX5_flood_59 : decode cX5_flood 59 = .ok (.isub, 1) := by decide +kernel
theorem dX5_flood_60 : decode cX5_flood 60 = .ok (.istore 5, 2) := by decide +kernel
theorem dX5_flood_62 : decode cX5_flood 62 = .ok (.iconst 0, 1) := by decide +kernel
theorem dX5_flood_63 : decode cX5_flood 63 = .ok (.istore 6, 2) := by decide +kernel
theorem dX5_flood_65 : decode cX5_flood 65 = .ok (.iload 5, 2) := by decide +kernel
theorem dX5_flood_67 : decode cX5_flood 67 = .ok (.istore 7, 2) := by decide +kernel
theorem dX5_flood_69 : decode cX5_flood 69 = .ok (.iload 7, 2) := by decide +kernel
theorem dX5_flood_71 : decode cX5_flood 71 = .ok (.iload 5, 2) := by decide +kernel
theorem dX5_flood_73 : decode cX5_flood 73 = .ok (.iconst 5, 1) := by decide +kernel
theorem dX5_flood_74 : decode cX5_flood 74 = .ok (.iadd, 1) := by decide +kernel
theorem dX5_flood_75 : decode cX5_flood 75 = .ok (.if_icmp .ge 43, 3) := by decide +kernel
theorem dX5_flood_78 : decode cX5_flood 78 = .ok (.iload 7, 2) := by decide +kernel
theorem dX5_flood_80 : decode cX5_flood 80 = .ok (.iload 4, 2) := by decide +kernel
theorem dX5_flood_82 : decode cX5_flood 82 = .ok (.if_icmp .eq 30, 3) := by decide +kernel
theorem dX5_flood_85 : decode cX5_flood 85 = .ok (.aload_n 0, 1) := by decide +kernel
theorem dX5_flood_86 : decode cX5_flood 86 = .ok (.getfield 21, 3) := by decide +kernel
theorem dX5_flood_89 : decode cX5_flood 89 = .ok (.getfield 198, 3) := by decide +kernel
theorem dX5_flood_92 : decode cX5_flood 92 = .ok (.iload 7, 2) := by decide +kernel
theorem dX5_flood_94 : decode cX5_flood 94 = .ok (.baload, 1) := by decide +kernel
theorem dX5_flood_95 : decode cX5_flood 95 = .ok (.ifCond .eq 17, 3) := by decide +kernel
theorem dX5_flood_98 : decode cX5_flood 98 = .ok (.iload 6, 2) := by decide +kernel
theorem dX5_flood_100 : decode cX5_flood 100 = .ok (.aload_n 0, 1) := by decide +kernel
theorem dX5_flood_101 : decode cX5_flood 101 = .ok (.iload 7, 2) := by decide +kernel
theorem dX5_flood_103 : decode cX5_flood 103 = .ok (.iload_n 1, 1) := by decide +kernel
theorem dX5_flood_104 : decode cX5_flood 104 = .ok (.iload_n 2, 1) := by decide +kernel
theorem dX5_flood_105 : decode cX5_flood 105 = .ok (.iload_n 3, 1) := by decide +kernel
theorem dX5_flood_106 : decode cX5_flood 106 = .ok (.invokevirtual 303, 3) := by decide +kernel
theorem dX5_flood_109 : decode cX5_flood 109 = .ok (.iadd, 1) := by decide +kernel
theorem dX5_flood_110 : decode cX5_flood 110 = .ok (.istore 6, 2) := by decide +kernel
theorem dX5_flood_112 : decode cX5_flood 112 = .ok (.iinc 7 1, 3) := by decide +kernel
end
section
theorem dX5_flood_115 : decode cX5_flood 115 = .ok (.goto (-46), 3) := by decide +kernel
theorem dX5_flood_118 : decode cX5_flood 118 = .ok (.iload 6, 2) := by decide +kernel
theorem dX5_flood_120 : decode cX5_flood 120 = .ok (.ireturn, 1) := by decide +kernel
set_option maxRecDepth 20000 in
theorem ggX5_goOut_X0_carries : GoodIn wsX5_goOut wsX0_carries := goodIn_r _ [12, 13, 14, 15, 11, 16, 62, 63] (by decide +kernel) (by decide +kernel)
set_option maxRecDepth 20000 in
theorem gX5_goOut_X0_carries : GoodIn wsX5_goOut (wsV RX5 288 RX0 yX0_carries wsX0_carries) := goodIn_app (goodIn_of _ (by decide +kernel)) ggX5_goOut_X0_carries
set_option maxRecDepth 20000 in
theorem ggX5_goOut_X5_handOver : GoodIn wsX5_goOut wsX5_handOver := goodIn_r _ [21, 22, 23, 39, 40, 41, 42, 43, 44, 45, 46, 47, 48] (by decide +kernel) (by decide +kernel)
set_option maxRecDepth 20000 in
theorem gX5_goOut_X5_handOver : GoodIn wsX5_goOut (wsV RX5 307 RX5 yX5_handOver wsX5_handOver) := goodIn_app (goodIn_of _ (by decide +kernel)) ggX5_goOut_X5_handOver
set_option maxRecDepth 20000 in
theorem ggX5_goOut_X0_tagOut : GoodIn wsX5_goOut wsX0_tagOut := goodIn_r _ [27, 28, 62, 63] (by decide +kernel) (by decide +kernel)
set_option maxRecDepth 20000 in
theorem gX5_goOut_X0_tagOut : GoodIn wsX5_goOut (wsV RX5 248 RX0 yX0_tagOut wsX0_tagOut) := goodIn_app (goodIn_of _ (by decide +kernel)) ggX5_goOut_X0_tagOut
set_option maxRecDepth 20000 in
theorem ggX5_goOut_X1_add : GoodIn wsX5_goOut wsX1_add := goodIn_r _ [33, 34, 35, 36, 37, 38, 57, 58, 59, 60, 61] (by decide +kernel) (by decide +kernel)
set_option maxRecDepth 20000 in
theorem gX5_goOut_X1_add : GoodIn wsX5_goOut (wsV RX5 170 RX1 yX1_add wsX1_add) := goodIn_app (goodIn_of _ (by decide +kernel)) ggX5_goOut_X1_add
theorem dX5_goOut_0 : decode cX5_goOut 0 = .ok (.aload_n 0, 1) := by decide +kernel
theorem dX5_goOut_1 : decode cX5_goOut 1 = .ok (.getfield 31, 3) := by decide +kernel
theorem dX5_goOut_4 : decode cX5_goOut 4 = .ok (.iload_n 1, 1) := by decide +kernel
theorem dX5_goOut_5 : decode cX5_goOut 5 = .ok (.iload_n 3, 1) := by decide +kernel
theorem dX5_goOut_6 : decode cX5_goOut 6 = .ok (.invokevirtual 288, 3) := by decide +kernel
theorem dX5_goOut_9 : decode cX5_goOut 9 = .ok (.ifCond .ne 5, 3) := by decide +kernel
theorem dX5_goOut_12 : decode cX5_goOut 12 = .ok (.iconst 0, 1) := by decide +kernel
theorem dX5_goOut_13 : decode cX5_goOut 13 = .ok (.ireturn, 1) := by decide +kernel
theorem dX5_goOut_14 : decode cX5_goOut 14 = .ok (.aload_n 0, 1) := by decide +kernel
theorem dX5_goOut_15 : decode cX5_goOut 15 = .ok (.getfield 12, 3) := by decide +kernel
theorem dX5_goOut_18 : decode cX5_goOut 18 = .ok (.getfield 99, 3) := by decide +kernel
theorem dX5_goOut_21 : decode cX5_goOut 21 = .ok (.iload_n 1, 1) := by decide +kernel
theorem dX5_goOut_22 : decode cX5_goOut 22 = .ok (.iaload, 1) := by decide +kernel
theorem dX5_goOut_23 : decode cX5_goOut 23 = .ok (.istore 5, 2) := by decide +kernel
theorem dX5_goOut_25 : decode cX5_goOut 25 = .ok (.iload 5, 2) := by decide +kernel
theorem dX5_goOut_27 : decode cX5_goOut 27 = .ok (.iconst (-1), 1) := by decide +kernel
theorem dX5_goOut_28 : decode cX5_goOut 28 = .ok (.if_icmp .ne 19, 3) := by decide +kernel
theorem dX5_goOut_31 : decode cX5_goOut 31 = .ok (.aload_n 0, 1) := by decide +kernel
theorem dX5_goOut_32 : decode cX5_goOut 32 = .ok (.aload_n 0, 1) := by decide +kernel
theorem dX5_goOut_33 : decode cX5_goOut 33 = .ok (.getfield 12, 3) := by decide +kernel
theorem dX5_goOut_36 : decode cX5_goOut 36 = .ok (.getfield 245, 3) := by decide +kernel
theorem dX5_goOut_39 : decode cX5_goOut 39 = .ok (.iload_n 1, 1) := by decide +kernel
theorem dX5_goOut_40 : decode cX5_goOut 40 = .ok (.iaload, 1) := by decide +kernel
theorem dX5_goOut_41 : decode cX5_goOut 41 = .ok (.iload 4, 2) := by decide +kernel
theorem dX5_goOut_43 : decode cX5_goOut 43 = .ok (.invokevirtual 307, 3) := by decide +kernel
theorem dX5_goOut_46 : decode cX5_goOut 46 = .ok (.ireturn, 1) := by decide +kernel
theorem dX5_goOut_47 : decode cX5_goOut 47 = .ok (.aload_n 0, 1) := by decide +kernel
theorem dX5_goOut_48 : decode cX5_goOut 48 = .ok (.getfield 45, 3) := by decide +kernel
theorem dX5_goOut_51 : decode cX5_goOut 51 = .ok (.getfield 310, 3) := by decide +kernel
theorem dX5_goOut_54 : decode cX5_goOut 54 = .ok (.iload_n 2, 1) := by decide +kernel
theorem dX5_goOut_55 : decode cX5_goOut 55 = .ok (.iaload, 1) := by decide +kernel
theorem dX5_goOut_56 : decode cX5_goOut 56 = .ok (.iconst 1, 1) := by decide +kernel
theorem dX5_goOut_57 : decode cX5_goOut 57 = .ok (.iadd, 1) := by decide +kernel
theorem dX5_goOut_58 : decode cX5_goOut 58 = .ok (.istore 6, 2) := by decide +kernel
theorem dX5_goOut_60 : decode cX5_goOut 60 = .ok (.iload 6, 2) := by decide +kernel
theorem dX5_goOut_62 : decode cX5_goOut 62 = .ok (.bipush 12, 2) := by decide +kernel
theorem dX5_goOut_64 : decode cX5_goOut 64 = .ok (.if_icmp .le 5, 3) := by decide +kernel
theorem dX5_goOut_67 : decode cX5_goOut 67 = .ok (.iconst 0, 1) := by decide +kernel
theorem dX5_goOut_68 : decode cX5_goOut 68 = .ok (.ireturn, 1) := by decide +kernel
theorem dX5_goOut_69 : decode cX5_goOut 69 = .ok (.aload_n 0, 1) := by decide +kernel
theorem dX5_goOut_70 : decode cX5_goOut 70 = .ok (.getfield 45, 3) := by decide +kernel
theorem dX5_goOut_73 : decode cX5_goOut 73 = .ok (.getfield 311, 3) := by decide +kernel
theorem dX5_goOut_76 : decode cX5_goOut 76 = .ok (.iload_n 2, 1) := by decide +kernel
theorem dX5_goOut_77 : decode cX5_goOut 77 = .ok (.iaload, 1) := by decide +kernel
theorem dX5_goOut_78 : decode cX5_goOut 78 = .ok (.istore 7, 2) := by decide +kernel
theorem dX5_goOut_80 : decode cX5_goOut 80 = .ok (.aload_n 0, 1) := by decide +kernel
theorem dX5_goOut_81 : decode cX5_goOut 81 = .ok (.getfield 31, 3) := by decide +kernel
theorem dX5_goOut_84 : decode cX5_goOut 84 = .ok (.iload_n 1, 1) := by decide +kernel
theorem dX5_goOut_85 : decode cX5_goOut 85 = .ok (.iload_n 3, 1) := by decide +kernel
theorem dX5_goOut_86 : decode cX5_goOut 86 = .ok (.invokevirtual 248, 3) := by decide +kernel
theorem dX5_goOut_89 : decode cX5_goOut 89 = .ok (.istore 8, 2) := by decide +kernel
theorem dX5_goOut_91 : decode cX5_goOut 91 = .ok (.iload 8, 2) := by decide +kernel
theorem dX5_goOut_93 : decode cX5_goOut 93 = .ok (.ifCond .ne 20, 3) := by decide +kernel
theorem dX5_goOut_96 : decode cX5_goOut 96 = .ok (.aload_n 0, 1) := by decide +kernel
theorem dX5_goOut_97 : decode cX5_goOut 97 = .ok (.getfield 45, 3) := by decide +kernel
theorem dX5_goOut_100 : decode cX5_goOut 100 = .ok (.iload 5, 2) := by decide +kernel
theorem dX5_goOut_102 : decode cX5_goOut 102 = .ok (.iload 7, 2) := by decide +kernel
theorem dX5_goOut_104 : decode cX5_goOut 104 = .ok (.iconst 0, 1) := by decide +kernel
theorem dX5_goOut_105 : decode cX5_goOut 105 = .ok (.iload 6, 2) := by decide +kernel
theorem dX5_goOut_107 : decode cX5_goOut 107 = .ok (.invokevirtual 170, 3) := by decide +kernel
theorem dX5_goOut_110 : decode cX5_goOut 110 = .ok (.goto 18, 3) := by decide +kernel
theorem dX5_goOut_113 : decode cX5_goOut 113 = .ok (.aload_n 0, 1) := by decide +kernel
theorem dX5_goOut_114 : decode cX5_goOut 114 = .ok (.getfield 45, 3) := by decide +kernel
theorem dX5_goOut_117 : decode cX5_goOut 117 = .ok (.iload 5, 2) := by decide +kernel
theorem dX5_goOut_119 : decode cX5_goOut 119 = .ok (.iload 8, 2) := by decide +kernel
theorem dX5_goOut_121 : decode cX5_goOut 121 = .ok (.iload 7, 2) := by decide +kernel
theorem dX5_goOut_123 : decode cX5_goOut 123 = .ok (.iload 6, 2) := by decide +kernel
theorem dX5_goOut_125 : decode cX5_goOut 125 = .ok (.invokevirtual 170, 3) := by decide +kernel
theorem dX5_goOut_128 : decode cX5_goOut 128 = .ok (.iconst 0, 1) := by decide +kernel
theorem dX5_goOut_129 : decode cX5_goOut 129 = .ok (.ireturn, 1) := by decide +kernel
theorem dX5_handOver_0 : decode cX5_handOver 0 = .ok (.iload_n 1, 1) := by decide +kernel
theorem dX5_handOver_1 : decode cX5_handOver 1 = .ok (.iconst (-1), 1) := by decide +kernel
theorem dX5_handOver_2 : decode cX5_handOver 2 = .ok (.if_icmp .ne 5, 3) := by decide +kernel
theorem dX5_handOver_5 : decode cX5_handOver 5 = .ok (.iconst 0, 1) := by decide +kernel
theorem dX5_handOver_6 : decode cX5_handOver 6 = .ok (.ireturn, 1) := by decide +kernel
theorem dX5_handOver_7 : decode cX5_handOver 7 = .ok (.iload_n 2, 1) := by decide +kernel
theorem dX5_handOver_8 : decode cX5_handOver 8 = .ok (.bipush 10, 2) := by decide +kernel
theorem dX5_handOver_10 : decode cX5_handOver 10 = .ok (.if_icmp .eq 8, 3) := by decide +kernel
theorem dX5_handOver_13 : decode cX5_handOver 13 = .ok (.iload_n 2, 1) := by decide +kernel
theorem dX5_handOver_14 : decode cX5_handOver 14 = .ok (.iload_n 1, 1) := by decide +kernel
theorem dX5_handOver_15 : decode cX5_handOver 15 = .ok (.if_icmp .ne 15, 3) := by decide +kernel
theorem dX5_handOver_18 : decode cX5_handOver 18 = .ok (.aload_n 0, 1) := by decide +kernel
theorem dX5_handOver_19 : decode cX5_handOver 19 = .ok (.getfield 53, 3) := by decide +kernel
theorem dX5_handOver_22 : decode cX5_handOver 22 = .ok (.iload_n 1, 1) := by decide +kernel
theorem dX5_handOver_23 : decode cX5_handOver 23 = .ok (.dup2, 1) := by decide +kernel
theorem dX5_handOver_24 : decode cX5_handOver 24 = .ok (.iaload, 1) := by decide +kernel
theorem dX5_handOver_25 : decode cX5_handOver 25 = .ok (.iconst 1, 1) := by decide +kernel
theorem dX5_handOver_26 : decode cX5_handOver 26 = .ok (.iadd, 1) := by decide +kernel
theorem dX5_handOver_27 : decode cX5_handOver 27 = .ok (.iastore, 1) := by decide +kernel
theorem dX5_handOver_28 : decode cX5_handOver 28 = .ok (.iconst 1, 1) := by decide +kernel
theorem dX5_handOver_29 : decode cX5_handOver 29 = .ok (.ireturn, 1) := by decide +kernel
theorem dX5_handOver_30 : decode cX5_handOver 30 = .ok (.aload_n 0, 1) := by decide +kernel
theorem dX5_handOver_31 : decode cX5_handOver 31 = .ok (.getfield 56, 3) := by decide +kernel
theorem dX5_handOver_34 : decode cX5_handOver 34 = .ok (.iload_n 1, 1) := by decide +kernel
theorem dX5_handOver_35 : decode cX5_handOver 35 = .ok (.dup2, 1) := by decide +kernel
theorem dX5_handOver_36 : decode cX5_handOver 36 = .ok (.iaload, 1) := by decide +kernel
theorem dX5_handOver_37 : decode cX5_handOver 37 = .ok (.iconst 1, 1) := by decide +kernel
theorem dX5_handOver_38 : decode cX5_handOver 38 = .ok (.iadd, 1) := by decide +kernel
theorem dX5_handOver_39 : decode cX5_handOver 39 = .ok (.iastore, 1) := by decide +kernel
theorem dX5_handOver_40 : decode cX5_handOver 40 = .ok (.iconst 0, 1) := by decide +kernel
theorem dX5_handOver_41 : decode cX5_handOver 41 = .ok (.ireturn, 1) := by decide +kernel
theorem dL_part_0 : decode cL_part 0 = .ok (.iload_n 1, 1) := by decide +kernel
theorem dL_part_1 : decode cL_part 1 = .ok (.aload_n 0, 1) := by decide +kernel
theorem dL_part_2 : decode cL_part 2 = .ok (.arraylength, 1) := by decide +kernel
theorem dL_part_3 : decode cL_part 3 = .ok (.if_icmp .ge 9, 3) := by decide +kernel
theorem dL_part_6 : decode cL_part 6 = .ok (.aload_n 0, 1) := by decide +kernel
theorem dL_part_7 : decode cL_part 7 = .ok (.iload_n 1, 1) := by decide +kernel
theorem dL_part_8 : decode cL_part 8 = .ok (.iaload, 1) := by decide +kernel
theorem dL_part_9 : decode cL_part 9 = .ok (.goto 16, 3) := by decide +kernel
theorem dL_part_12 : decode cL_part 12 = .ok (.sipush 761, 3) := by decide +kernel
theorem dL_part_15 : decode cL_part 15 = .ok (.iload_n 1, 1) := by decide +kernel
theorem dL_part_16 : decode cL_part 16 = .ok (.imul, 1) := by decide +kernel
theorem dL_part_17 : decode cL_part 17 = .ok (.sipush 619, 3) := by decide +kernel
theorem dL_part_20 : decode cL_part 20 = .ok (.iload_n 1, 1) := by decide +kernel
theorem dL_part_21 : decode cL_part 21 = .ok (.imul, 1) := by decide +kernel
theorem dL_part_22 : decode cL_part 22 = .ok (.iload_n 1, 1) := by decide +kernel
theorem dL_part_23 : decode cL_part 23 = .ok (.imul, 1) := by decide +kernel
theorem dL_part_24 : decode cL_part 24 = .ok (.iadd, 1) := by decide +kernel
theorem dL_part_25 : decode cL_part 25 = .ok (.istore_n 3, 1) := by decide +kernel
theorem dL_part_26 : decode cL_part 26 = .ok (.iload_n 3, 1) := by decide +kernel
theorem dL_part_27 : decode cL_part 27 = .ok (.ldc 7, 2) := by decide +kernel
theorem dL_part_29 : decode cL_part 29 = .ok (.iand, 1) := by decide +kernel
theorem dL_part_30 : decode cL_part 30 = .ok (.iload_n 2, 1) := by decide +kernel
theorem dL_part_31 : decode cL_part 31 = .ok (.irem, 1) := by decide +kernel
theorem dL_part_32 : decode cL_part 32 = .ok (.ireturn, 1) := by decide +kernel
set_option maxRecDepth 20000 in
theorem ggL_does_X5_wire : GoodIn wsL_does wsX5_wire := goodIn_ca (goodIn_ca (goodIn_ca (goodIn_r _ [8, 9, 10, 11, 12, 13, 14, 15, 16, 7, 17, 18, 19, 20, 21, 22, 23, 24, 25, 26, 27, 28, 29, 30, 31, 32, 33, 34, 35, 36, 37, 38, 39, 40, 41, 380, 381, 382, 383, 384, 385, 386, 387, 388, 389, 390, 391, 392, 393, 394, 395, 396, 397] (by decide +kernel) (by decide +kernel)) (goodIn_sub (fun _ h => List.mem_cons_of_mem _ (List.mem_append_left _ (List.mem_append_left _ (List.mem_append_right _ h)))) (by decide +kernel))) (goodIn_sub (fun _ h => List.mem_cons_of_mem _ (List.mem_append_left _ (List.mem_append_right _ h))) (by decide +kernel))) (goodIn_sub (fun _ h => List.mem_cons_of_mem _ (List.mem_append_right _ h)) (by decide +kernel))
set_option maxRecDepth 20000 in
theorem gL_does_X5_wire : GoodIn wsL_does (wsV RL 8 RX5 yX5_wire wsX5_wire) := goodIn_app (goodIn_of _ (by decide +kernel)) ggL_does_X5_wire
set_option maxRecDepth 20000 in
theorem ggL_does_X5_free : GoodIn wsL_does wsX5_free := goodIn_ca (goodIn_ca (goodIn_r _ [45, 11, 12, 13, 46, 15, 16, 7, 17, 18, 19, 20, 21, 22, 26, 27, 28, 29, 30, 31, 32, 33, 34, 35, 47, 48, 49, 50, 51, 52, 53, 54, 55, 56, 57, 58, 59, 60, 61, 62, 63, 64, 65, 66, 67, 68, 69, 70, 71, 72, 73, 74, 75, 76, 77, 78, 79, 80, 81, 41, 380, 381, 382, 383, 384, 385, 386, 387, 388, 389, 390, 391, 392, 393, 394, 395, 396, 397, 398, 399, 400, 401, 402, 403, 404, 405, 406, 407, 408, 409, 410, 411, 412, 413, 414, 415, 416] (by decide +kernel) (by decide +kernel)) (goodIn_sub (fun _ h => List.mem_cons_of_mem _ (List.mem_append_left _ (List.mem_append_right _ h))) (by decide +kernel))) (goodIn_sub (fun _ h => List.mem_cons_of_mem _ (List.mem_append_right _ h)) (by decide +kernel))
set_option maxRecDepth 20000 in
theorem gL_does_X5_free : GoodIn wsL_does (wsV RL 14 RX5 yX5_free wsX5_free) := goodIn_app (goodIn_of _ (by decide +kernel)) ggL_does_X5_free
set_option maxRecDepth 20000 in
theorem ggL_does_X5_house : GoodIn wsL_does wsX5_house := goodIn_ca (goodIn_ca (goodIn_r _ [85, 11, 12, 13, 86, 51, 87, 15, 16, 7, 17, 18, 19, 20, 21, 22, 88, 89, 90, 26, 27, 28, 29, 30, 31, 32, 33, 34, 35, 91, 92, 93, 94, 76, 77, 95, 96, 97, 56, 98, 58, 99, 100, 101, 102, 103, 104, 105, 380, 381, 382, 383, 384, 385, 386, 387, 388, 389, 390, 391, 392, 393, 394, 395, 396, 397, 398, 399, 400, 401, 402, 403, 404, 405, 406, 407, 408, 409, 410, 411, 412, 413] (by decide +kernel) (by decide +kernel)) (goodIn_sub (fun _ h => List.mem_cons_of_mem _ (List.mem_append_left _ (List.mem_append_right _ h))) (by decide +kernel))) (goodIn_sub (fun _ h => List.mem_cons_of_mem _ (List.mem_append_right _ h)) (by decide +kernel))
set_option maxRecDepth 20000 in
theorem gL_does_X5_house : GoodIn wsL_does (wsV RL 18 RX5 yX5_house wsX5_house) := goodIn_app (goodIn_of _ (by decide +kernel)) ggL_does_X5_house
set_option maxRecDepth 20000 in
theorem ggL_does_X5_rank : GoodIn wsL_does wsX5_rank := goodIn_ca (goodIn_ca (goodIn_r _ [109, 13, 110, 20, 21, 7, 22, 18, 19, 23, 24, 25, 9, 10, 380, 381, 382, 383, 384, 385, 386, 387, 388, 389, 390, 391, 392, 393, 394, 395, 396, 397] (by decide +kernel) (by decide +kernel)) (goodIn_sub (fun _ h => List.mem_cons_of_mem _ (List.mem_append_right _ h)) (by decide +kernel))) (goodIn_sub (fun _ h => List.mem_cons_of_mem _ (List.mem_append_left _ (List.mem_append_left _ (List.mem_append_right _ h)))) (by decide +kernel))
set_option maxRecDepth 20000 in
theorem gL_does_X5_rank : GoodIn wsL_does (wsV RL 22 RX5 yX5_rank wsX5_rank) := goodIn_app (goodIn_of _ (by decide +kernel)) ggL_does_X5_rank
set_option maxRecDepth 20000 in
theorem ggL_does_X5_shut : GoodIn wsL_does wsX5_shut := goodIn_ca (goodIn_r _ [114, 51, 15, 16, 7, 17, 18, 19, 20, 21, 22, 26, 27, 28, 115, 102, 103, 56, 104, 105, 116, 117, 118, 119, 120, 96, 97, 98, 58, 99, 100, 101, 121, 122, 123, 124, 52, 125, 126, 127, 128, 129, 54, 55, 57, 59, 60, 61, 62, 63, 64, 65, 66, 67, 68, 69, 70, 71, 380, 381, 382, 383, 384, 385, 386, 387, 388, 389, 398, 399, 400, 401, 402, 403, 404, 405, 406, 407, 408, 409, 410, 411, 412, 413, 390, 391, 392, 393, 394, 395, 396, 397, 414, 415, 416] (by decide +kernel) (by decide +kernel)) (goodIn_sub (fun _ h => List.mem_cons_of_mem _ (List.mem_append_right _ h)) (by decide +kernel))
set_option maxRecDepth 20000 in
theorem gL_does_X5_shut : GoodIn wsL_does (wsV RL 25 RX5 yX5_shut wsX5_shut) := goodIn_app (goodIn_of _ (by decide +kernel)) ggL_does_X5_shut
set_option maxRecDepth 20000 in
theorem ggL_does_X5_guard : GoodIn wsL_does wsX5_guard := goodIn_ca (goodIn_ca (goodIn_r _ [133, 13, 134, 15, 16, 7, 17, 18, 19, 20, 21, 22, 23, 24, 25, 9, 10, 26, 27, 28, 380, 381, 382, 383, 384, 385, 386, 387, 388, 389, 390, 391, 392, 393, 394, 395, 396, 397] (by decide +kernel) (by decide +kernel)) (goodIn_sub (fun _ h => List.mem_cons_of_mem _ (List.mem_append_right _ h)) (by decide +kernel))) (goodIn_sub (fun _ h => List.mem_cons_of_mem _ (List.mem_append_left _ (List.mem_append_left _ (List.mem_append_right _ h)))) (by decide +kernel))
set_option maxRecDepth 20000 in
theorem gL_does_X5_guard : GoodIn wsL_does (wsV RL 29 RX5 yX5_guard wsX5_guard) := goodIn_app (goodIn_of _ (by decide +kernel)) ggL_does_X5_guard
set_option maxRecDepth 20000 in
theorem ggL_does_L_plained : GoodIn wsL_does wsL_plained := goodIn_ca (goodIn_r _ [138, 139, 140, 141, 7, 142, 143, 15, 16, 17, 18, 19, 20, 21, 22, 144, 145, 146, 26, 27, 28, 147, 148, 149, 150, 151, 152, 153, 154, 155, 156, 380, 381, 382, 383, 384, 385, 386, 387, 388, 389, 417, 418] (by decide +kernel) (by decide +kernel)) (goodIn_sub (fun _ h => List.mem_cons_of_mem _ (List.mem_append_right _ h)) (by decide +kernel))
set_option maxRecDepth 20000 in
theorem gL_does_L_plained : GoodIn wsL_does (va_wsS RL 32 yL_plained wsL_plained) := goodIn_app (goodIn_of _ (by decide +kernel)) ggL_does_L_plained
set_option maxRecDepth 20000 in
theorem ggL_does_L_trunked : GoodIn wsL_does wsL_trunked := goodIn_ca (goodIn_ca (goodIn_r _ [159, 160, 161, 162, 7, 163, 143, 15, 16, 17, 18, 19, 20, 21, 22, 144, 145, 146, 23, 24, 25, 9, 10, 26, 27, 28, 151, 152, 153, 149, 154, 155, 156, 380, 381, 382, 383, 384, 385, 386, 387, 388, 389, 417, 418] (by decide +kernel) (by decide +kernel)) (goodIn_sub (fun _ h => List.mem_cons_of_mem _ (List.mem_append_right _ h)) (by decide +kernel))) (goodIn_sub (fun _ h => List.mem_cons_of_mem _ (List.mem_append_left _ (List.mem_append_left _ (List.mem_append_right _ h)))) (by decide +kernel))
set_option maxRecDepth 20000 in
theorem gL_does_L_trunked : GoodIn wsL_does (va_wsS RL 38 yL_trunked wsL_trunked) := goodIn_app (goodIn_of _ (by decide +kernel)) ggL_does_L_trunked
set_option maxRecDepth 20000 in
theorem ggL_does_X5_limit : GoodIn wsL_does wsX5_limit := goodIn_ca (goodIn_r _ [167, 168, 23, 24, 7, 25, 9, 10, 380, 381, 382, 383, 384, 385, 386, 387, 388, 389] (by decide +kernel) (by decide +kernel)) (goodIn_sub (fun _ h => List.mem_cons_of_mem _ (List.mem_append_left _ (List.mem_append_left _ (List.mem_append_right _ h)))) (by decide +kernel))
set_option maxRecDepth 20000 in
theorem gL_does_X5_limit : GoodIn wsL_does (wsV RL 42 RX5 yX5_limit wsX5_limit) := goodIn_app (goodIn_of _ (by decide +kernel)) ggL_does_X5_limit
set_option maxRecDepth 20000 in
theorem ggL_does_X5_beat : GoodIn wsL_does wsX5_beat := goodIn_ca (goodIn_r _ [172, 51, 173, 23, 24, 7, 25, 9, 10, 174, 175, 176, 177, 178, 179, 52, 180, 181, 182, 183, 56, 184, 185, 186, 187, 188, 189, 190, 191, 99, 192, 193, 194, 195, 196, 197, 198, 199, 200, 201, 101, 102, 103, 104, 105, 202, 203, 204, 205, 206, 207, 208, 126, 127, 128, 129, 54, 55, 57, 58, 59, 60, 209, 210, 211, 212, 213, 27, 28, 214, 215, 216, 217, 218, 219, 220, 221, 222, 223, 224, 225, 32, 226, 227, 228, 229, 230, 231, 232, 233, 234, 235, 236, 237, 238, 239, 240, 241, 242, 243, 244, 245, 246, 247, 248, 249, 250, 251, 252, 117, 118, 119, 120, 96, 97, 98, 100, 61, 62, 63, 64, 65, 66, 67, 68, 69, 70, 71, 253, 254, 255, 256, 257, 258, 259, 260, 261, 380, 381, 382, 383, 384, 385, 386, 387, 388, 389, 398, 399, 400, 401, 402, 403, 404, 405, 406, 407, 408, 409, 410, 411, 412, 413, 390, 391, 392, 393, 394, 395, 396, 397, 414, 415, 416] (by decide +kernel) (by decide +kernel)) (goodIn_sub (fun _ h => List.mem_cons_of_mem _ (List.mem_append_left _ (List.mem_append_left _ (List.mem_append_right _ h)))) (by decide +kernel))
set_option maxRecDepth 20000 in
theorem gL_does_X5_beat : GoodIn wsL_does (wsV RL 46 RX5 yX5_beat wsX5_beat) := goodIn_app (goodIn_of _ (by decide +kernel)) ggL_does_X5_beat
set_option maxRecDepth 20000 in
theorem ggL_does_X5_send : GoodIn wsL_does wsX5_send := goodIn_ca (goodIn_ca (goodIn_ca (goodIn_r _ [265, 9, 10, 11, 12, 13, 86, 266, 267, 88, 89, 7, 90, 18, 19, 23, 24, 25, 268, 269, 270, 271, 272, 273, 274, 275, 276, 277, 278, 279, 280, 281, 282, 283, 284, 285, 286, 287, 52, 51, 173, 288, 289, 290, 291, 292, 143, 293, 294, 295, 149, 296, 156, 297, 298, 299, 300, 155, 301, 148, 150, 302, 303, 304, 64, 305, 66, 71, 261, 306, 307, 308, 309, 310, 311, 312, 26, 27, 28, 313, 314, 315, 316, 178, 168, 121, 122, 123, 124, 125, 126, 127, 56, 128, 105, 129, 54, 55, 57, 58, 59, 60, 61, 62, 63, 65, 67, 68, 69, 70, 317, 318, 319, 320, 46, 321, 322, 323, 324, 325, 326, 327, 328, 329, 330, 331, 332, 333, 334, 380, 381, 382, 383, 384, 385, 386, 387, 388, 389, 390, 391, 392, 393, 394, 395, 396, 397, 419, 420, 421, 422, 423, 398, 399, 400, 401, 402, 403, 404, 405, 406, 407, 408, 409, 410, 411, 412, 413, 417, 418, 414, 415, 416] (by decide +kernel) (by decide +kernel)) (goodIn_sub (fun _ h => List.mem_cons_of_mem _ (List.mem_append_left _ (List.mem_append_left _ (List.mem_append_right _ h)))) (by decide +kernel))) (goodIn_sub (fun _ h => List.mem_cons_of_mem _ (List.mem_append_left _ (List.mem_append_right _ h))) (by decide +kernel))) (goodIn_sub (fun _ h => List.mem_cons_of_mem _ (List.mem_append_right _ h)) (by decide +kernel))
set_option maxRecDepth 20000 in
theorem gL_does_X5_send : GoodIn wsL_does (wsV RL 49 RX5 yX5_send wsX5_send) := goodIn_app (goodIn_of _ (by decide +kernel)) ggL_does_X5_send
set_option maxRecDepth 20000 in
theorem ggL_does_X5_holds : GoodIn wsL_does wsX5_holds := goodIn_ca (goodIn_ca (goodIn_r _ [338, 9, 10, 51, 339, 340, 341, 342, 52, 343, 20, 21, 7, 22, 18, 19, 380, 381, 382, 383, 384, 385, 386, 387, 388, 389, 398, 399, 400, 401, 402, 403, 404, 405, 406, 407, 408, 409, 410, 411, 412, 413, 414, 415, 416] (by decide +kernel) (by decide +kernel)) (goodIn_sub (fun _ h => List.mem_cons_of_mem _ (List.mem_append_left _ (List.mem_append_left _ (List.mem_append_right _ h)))) (by decide +kernel))) (goodIn_sub (fun _ h => List.mem_cons_of_mem _ (List.mem_append_right _ h)) (by decide +kernel))
set_option maxRecDepth 20000 in
theorem gL_does_X5_holds : GoodIn wsL_does (wsV RL 53 RX5 yX5_holds wsX5_holds) := goodIn_app (goodIn_of _ (by decide +kernel)) ggL_does_X5_holds
set_option maxRecDepth 20000 in
theorem ggL_does_X5_port : GoodIn wsL_does wsX5_port := goodIn_ca (goodIn_ca (goodIn_r _ [347, 9, 10, 51, 288, 348, 178, 15, 16, 7, 17, 18, 19, 20, 21, 22, 26, 27, 28, 115, 102, 103, 56, 104, 105, 380, 381, 382, 383, 384, 385, 386, 387, 388, 389, 398, 399, 400, 401, 402, 403, 404, 405, 406, 407, 408, 409, 410, 411, 412, 413] (by decide +kernel) (by decide +kernel)) (goodIn_sub (fun _ h => List.mem_cons_of_mem _ (List.mem_append_left _ (List.mem_append_left _ (List.mem_append_right _ h)))) (by decide +kernel))) (goodIn_sub (fun _ h => List.mem_cons_of_mem _ (List.mem_append_right _ h)) (by decide +kernel))
set_option maxRecDepth 20000 in
theorem gL_does_X5_port : GoodIn wsL_does (wsV RL 56 RX5 yX5_port wsX5_port) := goodIn_app (goodIn_of _ (by decide +kernel)) ggL_does_X5_port
set_option maxRecDepth 20000 in
theorem ggL_does_X5_table : GoodIn wsL_does wsX5_table := goodIn_ca (goodIn_r _ [352, 52, 20, 21, 7, 22, 18, 19, 144, 145, 146, 88, 89, 90, 309, 310, 311, 64, 312, 66, 306, 307, 308, 380, 381, 382, 383, 384, 385, 386, 387, 388, 389, 414, 415, 416] (by decide +kernel) (by decide +kernel)) (goodIn_sub (fun _ h => List.mem_cons_of_mem _ (List.mem_append_right _ h)) (by decide +kernel))
set_option maxRecDepth 20000 in
theorem gL_does_X5_table : GoodIn wsL_does (wsV RL 59 RX5 yX5_table wsX5_table) := goodIn_app (goodIn_of _ (by decide +kernel)) ggL_does_X5_table
set_option maxRecDepth 20000 in
theorem ggL_does_X5_got : GoodIn wsL_does wsX5_got := goodIn_ca (goodIn_r _ [356, 330, 329, 88, 89, 7, 90, 18, 19, 380, 381, 382, 383, 384, 385, 386, 387, 388, 389] (by decide +kernel) (by decide +kernel)) (goodIn_sub (fun _ h => List.mem_cons_of_mem _ (List.mem_append_right _ h)) (by decide +kernel))
set_option maxRecDepth 20000 in
theorem gL_does_X5_got : GoodIn wsL_does (wsV RL 62 RX5 yX5_got wsX5_got) := goodIn_app (goodIn_of _ (by decide +kernel)) ggL_does_X5_got
set_option maxRecDepth 20000 in
theorem ggL_does_X5_found : GoodIn wsL_does wsX5_found := goodIn_ca (goodIn_r _ [360, 51, 361, 13, 20, 21, 7, 22, 18, 19, 362, 363, 364, 56, 365, 366, 99, 192, 218, 198, 199, 200, 201, 101, 102, 103, 104, 105, 367, 368, 369, 370, 371, 224, 225, 32, 226, 227, 380, 381, 382, 383, 384, 385, 386, 387, 388, 389, 398, 399, 400, 401, 402, 403, 404, 405, 406, 407, 408, 409, 410, 411, 412, 413, 390, 391, 392, 393, 394, 395, 396, 397] (by decide +kernel) (by decide +kernel)) (goodIn_sub (fun _ h => List.mem_cons_of_mem _ (List.mem_append_right _ h)) (by decide +kernel))
set_option maxRecDepth 20000 in
theorem gL_does_X5_found : GoodIn wsL_does (wsV RL 66 RX5 yX5_found wsX5_found) := goodIn_app (goodIn_of _ (by decide +kernel)) ggL_does_X5_found
set_option maxRecDepth 20000 in
theorem ggL_does_X5_walk : GoodIn wsL_does wsX5_walk := goodIn_ca (goodIn_ca (goodIn_ca (goodIn_r _ [375, 9, 10, 11, 12, 13, 86, 46, 321, 143, 88, 89, 7, 90, 18, 19, 289, 290, 291, 292, 51, 288, 293, 294, 295, 149, 296, 156, 297, 298, 299, 300, 155, 301, 148, 150, 376, 377, 378, 379, 52, 309, 310, 311, 64, 312, 66, 306, 307, 308, 26, 27, 28, 324, 331, 332, 333, 334, 380, 381, 382, 383, 384, 385, 386, 387, 388, 389, 390, 391, 392, 393, 394, 395, 396, 397, 398, 399, 400, 401, 402, 403, 404, 405, 406, 407, 408, 409, 410, 411, 412, 413, 417, 418, 414, 415, 416] (by decide +kernel) (by decide +kernel)) (goodIn_sub (fun _ h => List.mem_cons_of_mem _ (List.mem_append_left _ (List.mem_append_left _ (List.mem_append_right _ h)))) (by decide +kernel))) (goodIn_sub (fun _ h => List.mem_cons_of_mem _ (List.mem_append_left _ (List.mem_append_right _ h))) (by decide +kernel))) (goodIn_sub (fun _ h => List.mem_cons_of_mem _ (List.mem_append_right _ h)) (by decide +kernel))
set_option maxRecDepth 20000 in
theorem gL_does_X5_walk : GoodIn wsL_does (wsV RL 69 RX5 yX5_walk wsX5_walk) := goodIn_app (goodIn_of _ (by decide +kernel)) ggL_does_X5_walk
theorem dL_does_0 : decode cL_does 0 = .ok (.iload_n 1, 1) := by decide +kernel
theorem dL_does_1 : decode cL_does 1 = .ok (.ifCond .ne 18, 3) := by decide +kernel
theorem dL_does_4 : decode cL_does 4 = .ok (.aload_n 0, 1) := by decide +kernel
theorem dL_does_5 : decode cL_does 5 = .ok (.iload_n 2, 1) := by decide +kernel
theorem dL_does_6 : decode cL_does 6 = .ok (.iload_n 3, 1) := by decide +kernel
theorem dL_does_7 : decode cL_does 7 = .ok (.iload 4, 2) := by decide +kernel
theorem dL_does_9 : decode cL_does 9 = .ok (.iload 5, 2) := by decide +kernel
theorem dL_does_11 : decode cL_does 11 = .ok (.iload 6, 2) := by decide +kernel
theorem dL_does_13 : decode cL_does 13 = .ok (.invokevirtual 8, 3) := by decide +kernel
theorem dL_does_16 : decode cL_does 16 = .ok (.goto 252, 3) := by decide +kernel
theorem dL_does_19 : decode cL_does 19 = .ok (.iload_n 1, 1) := by decide +kernel
theorem dL_does_20 : decode cL_does 20 = .ok (.iconst 1, 1) := by decide +kernel
theorem dL_does_21 : decode cL_does 21 = .ok (.if_icmp .ne 12, 3) := by decide +kernel
theorem dL_does_24 : decode cL_does 24 = .ok (.aload_n 0, 1) := by decide +kernel
theorem dL_does_25 : decode cL_does 25 = .ok (.iload_n 2, 1) := by decide +kernel
theorem dL_does_26 : decode cL_does 26 = .ok (.iload_n 3, 1) := by decide +kernel
theorem dL_does_27 : decode cL_does 27 = .ok (.invokevirtual 14, 3) := by decide +kernel
theorem dL_does_30 : decode cL_does 30 = .ok (.goto 238, 3) := by decide +kernel
theorem dL_does_33 : decode cL_does 33 = .ok (.iload_n 1, 1) := by decide +kernel
theorem dL_does_34 : decode cL_does 34 = .ok (.iconst 2, 1) := by decide +kernel
theorem dL_does_35 : decode cL_does 35 = .ok (.if_icmp .ne 14, 3) := by decide +kernel
theorem dL_does_38 : decode cL_does 38 = .ok (.aload_n 0, 1) := by decide +kernel
theorem dL_does_39 : decode cL_does 39 = .ok (.iload_n 2, 1) := by decide +kernel
theorem dL_does_40 : decode cL_does 40 = .ok (.iload_n 3, 1) := by decide +kernel
theorem dL_does_41 : decode cL_does 41 = .ok (.iload 4, 2) := by decide +kernel
theorem dL_does_43 : decode cL_does 43 = .ok (.invokevirtual 18, 3) := by decide +kernel
theorem dL_does_46 : decode cL_does 46 = .ok (.goto 222, 3) := by decide +kernel
theorem dL_does_49 : decode cL_does 49 = .ok (.iload_n 1, 1) := by decide +kernel
theorem dL_does_50 : decode cL_does 50 = .ok (.iconst 3, 1) := by decide +kernel
theorem dL_does_51 : decode cL_does 51 = .ok (.if_icmp .ne 12, 3) := by decide +kernel
theorem dL_does_54 : decode cL_does 54 = .ok (.aload_n 0, 1) := by decide +kernel
theorem dL_does_55 : decode cL_does 55 = .ok (.iload_n 2, 1) := by decide +kernel
theorem dL_does_56 : decode cL_does 56 = .ok (.iload_n 3, 1) := by decide +kernel
theorem dL_does_57 : decode cL_does 57 = .ok (.invokevirtual 22, 3) := by decide +kernel
theorem dL_does_60 : decode cL_does 60 = .ok (.goto 208, 3) := by decide +kernel
theorem dL_does_63 : decode cL_does 63 = .ok (.iload_n 1, 1) := by decide +kernel
theorem dL_does_64 : decode cL_does 64 = .ok (.iconst 4, 1) := by decide +kernel
theorem dL_does_65 : decode cL_does 65 = .ok (.if_icmp .ne 20, 3) := by decide +kernel
theorem dL_does_68 : decode cL_does 68 = .ok (.aload_n 0, 1) := by decide +kernel
theorem dL_does_69 : decode cL_does 69 = .ok (.iload_n 2, 1) := by decide +kernel
theorem dL_does_70 : decode cL_does 70 = .ok (.iload_n 3, 1) := by decide +kernel
theorem dL_does_71 : decode cL_does 71 = .ok (.invokevirtual 25, 3) := by decide +kernel
theorem dL_does_74 : decode cL_does 74 = .ok (.ifCond .eq 7, 3) := by decide +kernel
theorem dL_does_77 : decode cL_does 77 = .ok (.iconst 1, 1) := by decide +kernel
theorem dL_does_78 : decode cL_does 78 = .ok (.goto 190, 3) := by decide +kernel
theorem dL_does_81 : decode cL_does 81 = .ok (.iconst 0, 1) := by decide +kernel
theorem dL_does_82 : decode cL_does 82 = .ok (.goto 186, 3) := by decide +kernel
theorem dL_does_85 : decode cL_does 85 = .ok (.iload_n 1, 1) := by decide +kernel
theorem dL_does_86 : decode cL_does 86 = .ok (.iconst 5, 1) := by decide +kernel
theorem dL_does_87 : decode cL_does 87 = .ok (.if_icmp .ne 14, 3) := by decide +kernel
theorem dL_does_90 : decode cL_does 90 = .ok (.aload_n 0, 1) := by decide +kernel
theorem dL_does_91 : decode cL_does 91 = .ok (.iload_n 2, 1) := by decide +kernel
theorem dL_does_92 : decode cL_does 92 = .ok (.iload_n 3, 1) := by decide +kernel
theorem dL_does_93 : decode cL_does 93 = .ok (.iload 4, 2) := by decide +kernel
theorem dL_does_95 : decode cL_does 95 = .ok (.invokevirtual 29, 3) := by decide +kernel
theorem dL_does_98 : decode cL_does 98 = .ok (.goto 170, 3) := by decide +kernel
theorem dL_does_101 : decode cL_does 101 = .ok (.iload_n 1, 1) := by decide +kernel
theorem dL_does_102 : decode cL_does 102 = .ok (.bipush 6, 2) := by decide +kernel
theorem dL_does_104 : decode cL_does 104 = .ok (.if_icmp .ne 14, 3) := by decide +kernel
theorem dL_does_107 : decode cL_does 107 = .ok (.aload_n 0, 1) := by decide +kernel
theorem dL_does_108 : decode cL_does 108 = .ok (.iload_n 2, 1) := by decide +kernel
theorem dL_does_109 : decode cL_does 109 = .ok (.iload_n 3, 1) := by decide +kernel
theorem dL_does_110 : decode cL_does 110 = .ok (.iload 4, 2) := by decide +kernel
theorem dL_does_112 : decode cL_does 112 = .ok (.invokestatic 32, 3) := by decide +kernel
theorem dL_does_115 : decode cL_does 115 = .ok (.goto 153, 3) := by decide +kernel
theorem dL_does_118 : decode cL_does 118 = .ok (.iload_n 1, 1) := by decide +kernel
theorem dL_does_119 : decode cL_does 119 = .ok (.bipush 7, 2) := by decide +kernel
theorem dL_does_121 : decode cL_does 121 = .ok (.if_icmp .ne 16, 3) := by decide +kernel
theorem dL_does_124 : decode cL_does 124 = .ok (.aload_n 0, 1) := by decide +kernel
theorem dL_does_125 : decode cL_does 125 = .ok (.iload_n 2, 1) := by decide +kernel
theorem dL_does_126 : decode cL_does 126 = .ok (.iload_n 3, 1) := by decide +kernel
theorem dL_does_127 : decode cL_does 127 = .ok (.iload 4, 2) := by decide +kernel
theorem dL_does_129 : decode cL_does 129 = .ok (.iload 5, 2) := by decide +kernel
theorem dL_does_131 : decode cL_does 131 = .ok (.invokestatic 38, 3) := by decide +kernel
theorem dL_does_134 : decode cL_does 134 = .ok (.goto 134, 3) := by decide +kernel
theorem dL_does_137 : decode cL_does 137 = .ok (.iload_n 1, 1) := by decide +kernel
theorem dL_does_138 : decode cL_does 138 = .ok (.bipush 8, 2) := by decide +kernel
theorem dL_does_140 : decode cL_does 140 = .ok (.if_icmp .ne 11, 3) := by decide +kernel
theorem dL_does_143 : decode cL_does 143 = .ok (.aload_n 0, 1) := by decide +kernel
theorem dL_does_144 : decode cL_does 144 = .ok (.iload_n 2, 1) := by decide +kernel
theorem dL_does_145 : decode cL_does 145 = .ok (.invokevirtual 42, 3) := by decide +kernel
theorem dL_does_148 : decode cL_does 148 = .ok (.goto 120, 3) := by decide +kernel
theorem dL_does_151 : decode cL_does 151 = .ok (.iload_n 1, 1) := by decide +kernel
theorem dL_does_152 : decode cL_does 152 = .ok (.bipush 9, 2) := by decide +kernel
theorem dL_does_154 : decode cL_does 154 = .ok (.if_icmp .ne 11, 3) := by decide +kernel
theorem dL_does_157 : decode cL_does 157 = .ok (.aload_n 0, 1) := by decide +kernel
theorem dL_does_158 : decode cL_does 158 = .ok (.iload_n 2, 1) := by decide +kernel
theorem dL_does_159 : decode cL_does 159 = .ok (.invokevirtual 46, 3) := by decide +kernel
theorem dL_does_162 : decode cL_does 162 = .ok (.goto 106, 3) := by decide +kernel
theorem dL_does_165 : decode cL_does 165 = .ok (.iload_n 1, 1) := by decide +kernel
theorem dL_does_166 : decode cL_does 166 = .ok (.bipush 10, 2) := by decide +kernel
theorem dL_does_168 : decode cL_does 168 = .ok (.if_icmp .ne 16, 3) := by decide +kernel
theorem dL_does_171 : decode cL_does 171 = .ok (.aload_n 0, 1) := by decide +kernel
theorem dL_does_172 : decode cL_does 172 = .ok (.iload_n 2, 1) := by decide +kernel
theorem dL_does_173 : decode cL_does 173 = .ok (.iload_n 3, 1) := by decide +kernel
theorem dL_does_174 : decode cL_does 174 = .ok (.iload 4, 2) := by decide +kernel
theorem dL_does_176 : decode cL_does 176 = .ok (.iload 5, 2) := by decide +kernel
theorem dL_does_178 : decode cL_does 178 = .ok (.invokevirtual 49, 3) := by decide +kernel
theorem dL_does_181 : decode cL_does 181 = .ok (.goto 87, 3) := by decide +kernel
theorem dL_does_184 : decode cL_does 184 = .ok (.iload_n 1, 1) := by decide +kernel
theorem dL_does_185 : decode cL_does 185 = .ok (.bipush 11, 2) := by decide +kernel
theorem dL_does_187 : decode cL_does 187 = .ok (.if_icmp .ne 12, 3) := by decide +kernel
theorem dL_does_190 : decode cL_does 190 = .ok (.aload_n 0, 1) := by decide +kernel
theorem dL_does_191 : decode cL_does 191 = .ok (.iload_n 2, 1) := by decide +kernel
theorem dL_does_192 : decode cL_does 192 = .ok (.iload_n 3, 1) := by decide +kernel
theorem dL_does_193 : decode cL_does 193 = .ok (.invokevirtual 53, 3) := by decide +kernel
theorem dL_does_196 : decode cL_does 196 = .ok (.goto 72, 3) := by decide +kernel
theorem dL_does_199 : decode cL_does 199 = .ok (.iload_n 1, 1) := by decide +kernel
theorem dL_does_200 : decode cL_does 200 = .ok (.bipush 12, 2) := by decide +kernel
theorem dL_does_202 : decode cL_does 202 = .ok (.if_icmp .ne 14, 3) := by decide +kernel
theorem dL_does_205 : decode cL_does 205 = .ok (.aload_n 0, 1) := by decide +kernel
theorem dL_does_206 : decode cL_does 206 = .ok (.iload_n 2, 1) := by decide +kernel
theorem dL_does_207 : decode cL_does 207 = .ok (.iload_n 3, 1) := by decide +kernel
theorem dL_does_208 : decode cL_does 208 = .ok (.iload 4, 2) := by decide +kernel
theorem dL_does_210 : decode cL_does 210 = .ok (.invokevirtual 56, 3) := by decide +kernel
theorem dL_does_213 : decode cL_does 213 = .ok (.goto 55, 3) := by decide +kernel
theorem dL_does_216 : decode cL_does 216 = .ok (.iload_n 1, 1) := by decide +kernel
theorem dL_does_217 : decode cL_does 217 = .ok (.bipush 13, 2) := by decide +kernel
theorem dL_does_219 : decode cL_does 219 = .ok (.if_icmp .ne 14, 3) := by decide +kernel
theorem dL_does_222 : decode cL_does 222 = .ok (.aload_n 0, 1) := by decide +kernel
theorem dL_does_223 : decode cL_does 223 = .ok (.iload_n 2, 1) := by decide +kernel
theorem dL_does_224 : decode cL_does 224 = .ok (.iload_n 3, 1) := by decide +kernel
theorem dL_does_225 : decode cL_does 225 = .ok (.iload 4, 2) := by decide +kernel
theorem dL_does_227 : decode cL_does 227 = .ok (.invokevirtual 59, 3) := by decide +kernel
theorem dL_does_230 : decode cL_does 230 = .ok (.goto 38, 3) := by decide +kernel
theorem dL_does_233 : decode cL_does 233 = .ok (.iload_n 1, 1) := by decide +kernel
theorem dL_does_234 : decode cL_does 234 = .ok (.bipush 14, 2) := by decide +kernel
theorem dL_does_236 : decode cL_does 236 = .ok (.if_icmp .ne 12, 3) := by decide +kernel
theorem dL_does_239 : decode cL_does 239 = .ok (.aload_n 0, 1) := by decide +kernel
theorem dL_does_240 : decode cL_does 240 = .ok (.iload_n 2, 1) := by decide +kernel
theorem dL_does_241 : decode cL_does 241 = .ok (.iconst 0, 1) := by decide +kernel
theorem dL_does_242 : decode cL_does 242 = .ok (.invokevirtual 62, 3) := by decide +kernel
theorem dL_does_245 : decode cL_does 245 = .ok (.goto 23, 3) := by decide +kernel
theorem dL_does_248 : decode cL_does 248 = .ok (.iload_n 1, 1) := by decide +kernel
theorem dL_does_249 : decode cL_does 249 = .ok (.bipush 15, 2) := by decide +kernel
theorem dL_does_251 : decode cL_does 251 = .ok (.if_icmp .ne 11, 3) := by decide +kernel
theorem dL_does_254 : decode cL_does 254 = .ok (.aload_n 0, 1) := by decide +kernel
theorem dL_does_255 : decode cL_does 255 = .ok (.iload_n 2, 1) := by decide +kernel
theorem dL_does_256 : decode cL_does 256 = .ok (.invokevirtual 66, 3) := by decide +kernel
theorem dL_does_259 : decode cL_does 259 = .ok (.goto 9, 3) := by decide +kernel
theorem dL_does_262 : decode cL_does 262 = .ok (.aload_n 0, 1) := by decide +kernel
theorem dL_does_263 : decode cL_does 263 = .ok (.iload_n 2, 1) := by decide +kernel
theorem dL_does_264 : decode cL_does 264 = .ok (.iload_n 3, 1) := by decide +kernel
theorem dL_does_265 : decode cL_does 265 = .ok (.invokevirtual 69, 3) := by decide +kernel
theorem dL_does_268 : decode cL_does 268 = .ok (.ireturn, 1) := by decide +kernel
theorem dL_does_269 : decode cL_does 269 = .ok (.astore 7, 2) := by decide +kernel
theorem dL_does_271 : decode cL_does 271 = .ok (.sipush (-3000), 3) := by decide +kernel
theorem dL_does_274 : decode cL_does 274 = .ok (.ireturn, 1) := by decide +kernel
theorem dL_does_275 : decode cL_does 275 = .ok (.astore 7, 2) := by decide +kernel
theorem dL_does_277 : decode cL_does 277 = .ok (.sipush (-2000), 3) := by decide +kernel
theorem dL_does_280 : decode cL_does 280 = .ok (.ireturn, 1) := by decide +kernel
theorem dL_does_281 : decode cL_does 281 = .ok (.astore 7, 2) := by decide +kernel
theorem dL_does_283 : decode cL_does 283 = .ok (.sipush (-1000), 3) := by decide +kernel
theorem dL_does_286 : decode cL_does 286 = .ok (.ireturn, 1) := by decide +kernel
set_option maxRecDepth 20000 in
theorem ggL_plained_X5_plain : GoodIn wsL_plained wsX5_plain := goodIn_ca (goodIn_r _ [5, 6, 7, 8, 4, 9, 10, 11, 12, 13, 14, 15, 16, 17, 18, 19, 20, 21, 22, 23, 24, 25, 26, 27, 28, 29, 30, 31, 32, 33, 34, 35, 36, 37, 38, 39, 40, 41, 42] (by decide +kernel) (by decide +kernel)) (goodIn_sub (fun _ h => List.mem_cons_of_mem _ (List.mem_append_right _ h)) (by decide +kernel))
set_option maxRecDepth 20000 in
theorem gL_plained_X5_plain : GoodIn wsL_plained (wsV RL 78 RX5 yX5_plain wsX5_plain) := goodIn_app (goodIn_of _ (by decide +kernel)) ggL_plained_X5_plain
theorem dL_plained_0 : decode cL_plained 0 = .ok (.aload_n 0, 1) := by decide +kernel
theorem dL_plained_1 : decode cL_plained 1 = .ok (.iload_n 1, 1) := by decide +kernel
theorem dL_plained_2 : decode cL_plained 2 = .ok (.iload_n 2, 1) := by decide +kernel
theorem dL_plained_3 : decode cL_plained 3 = .ok (.iload_n 3, 1) := by decide +kernel
theorem dL_plained_4 : decode cL_plained 4 = .ok (.invokevirtual 78, 3) := by decide +kernel
theorem dL_plained_7 : decode cL_plained 7 = .ok (.iconst 0, 1) := by decide +kernel
theorem dL_plained_8 : decode cL_plained 8 = .ok (.ireturn, 1) := by decide +kernel
set_option maxRecDepth 20000 in
theorem ggL_trunked_X5_trunk : GoodIn wsL_trunked wsX5_trunk := goodIn_ca (goodIn_ca (goodIn_r _ [5, 6, 7, 8, 4, 9, 10, 11, 12, 13, 14, 15, 16, 17, 18, 19, 20, 21, 22, 23, 24, 25, 26, 27, 28, 29, 30, 31, 32, 33, 34, 35, 36, 37, 38, 39, 40, 41, 42, 43, 44] (by decide +kernel) (by decide +kernel)) (goodIn_sub (fun _ h => List.mem_cons_of_mem _ (List.mem_append_left _ (List.mem_append_right _ h))) (by decide +kernel))) (goodIn_sub (fun _ h => List.mem_cons_of_mem _ (List.mem_append_right _ h)) (by decide +kernel))
set_option maxRecDepth 20000 in
theorem gL_trunked_X5_trunk : GoodIn wsL_trunked (wsV RL 82 RX5 yX5_trunk wsX5_trunk) := goodIn_app (goodIn_of _ (by decide +kernel)) ggL_trunked_X5_trunk
theorem dL_trunked_0 : decode cL_trunked 0 = .ok (.aload_n 0, 1) := by decide +kernel
theorem dL_trunked_1 : decode cL_trunked 1 = .ok (.iload_n 1, 1) := by decide +kernel
theorem dL_trunked_2 : decode cL_trunked 2 = .ok (.iload_n 2, 1) := by decide +kernel
theorem dL_trunked_3 : decode cL_trunked 3 = .ok (.iload_n 3, 1) := by decide +kernel
theorem dL_trunked_4 : decode cL_trunked 4 = .ok (.iload 4, 2) := by decide +kernel
theorem dL_trunked_6 : decode cL_trunked 6 = .ok (.invokevirtual 82, 3) := by decide +kernel
theorem dL_trunked_9 : decode cL_trunked 9 = .ok (.iconst 0, 1) := by decide +kernel
theorem dL_trunked_10 : decode cL_trunked 10 = .ok (.ireturn, 1) := by decide +kernel
set_option maxRecDepth 20000 in
theorem ggL_isPassable_X5_port : GoodIn wsL_isPassable wsX5_port := goodIn_ca (goodIn_ca (goodIn_r _ [5, 6, 7, 8, 9, 10, 11, 12, 13, 4, 14, 15, 16, 17, 18, 19, 20, 21, 22, 23, 24, 25, 26, 27, 28, 29, 30, 31, 32, 33, 34, 35, 36, 37, 38, 39, 40, 41, 42, 43, 44, 45, 46, 47, 48, 49, 50, 51, 52, 53, 54] (by decide +kernel) (by decide +kernel)) (goodIn_sub (fun _ h => List.mem_cons_of_mem _ (List.mem_append_left _ (List.mem_append_right _ h))) (by decide +kernel))) (goodIn_sub (fun _ h => List.mem_cons_of_mem _ (List.mem_append_right _ h)) (by decide +kernel))
set_option maxRecDepth 20000 in
theorem gL_isPassable_X5_port : GoodIn wsL_isPassable (wsV RL 56 RX5 yX5_port wsX5_port) := goodIn_app (goodIn_of _ (by decide +kernel)) ggL_isPassable_X5_port
theorem dL_isPassable_0 : decode cL_isPassable 0 = .ok (.aload_n 1, 1) := by decide +kernel
theorem dL_isPassable_1 : decode cL_isPassable 1 = .ok (.iload_n 2, 1) := by decide +kernel
theorem dL_isPassable_2 : decode cL_isPassable 2 = .ok (.iaload, 1) := by decide +kernel
theorem dL_isPassable_3 : decode cL_isPassable 3 = .ok (.ifCond .lt 47, 3) := by decide +kernel
theorem dL_isPassable_6 : decode cL_isPassable 6 = .ok (.aload_n 1, 1) := by decide +kernel
theorem dL_isPassable_7 : decode cL_isPassable 7 = .ok (.iload_n 2, 1) := by decide +kernel
theorem dL_isPassable_8 : decode cL_isPassable 8 = .ok (.iaload, 1) := by decide +kernel
theorem dL_isPassable_9 : decode cL_isPassable 9 = .ok (.bipush 100, 2) := by decide +kernel
theorem dL_isPassable_11 : decode cL_isPassable 11 = .ok (.if_icmp .ge 39, 3) := by decide +kernel
theorem dL_isPassable_14 : decode cL_isPassable 14 = .ok (.aload_n 0, 1) := by decide +kernel
theorem dL_isPassable_15 : decode cL_isPassable 15 = .ok (.iload_n 2, 1) := by decide +kernel
theorem dL_isPassable_16 : decode cL_isPassable 16 = .ok (.iconst 5, 1) := by decide +kernel
theorem dL_isPassable_17 : decode cL_isPassable 17 = .ok (.idiv, 1) := by decide +kernel
theorem dL_isPassable_18 : decode cL_isPassable 18 = .ok (.iload_n 2, 1) := by decide +kernel
theorem dL_isPassable_19 : decode cL_isPassable 19 = .ok (.iconst 5, 1) := by decide +kernel
theorem dL_isPassable_20 : decode cL_isPassable 20 = .ok (.irem, 1) := by decide +kernel
theorem dL_isPassable_21 : decode cL_isPassable 21 = .ok (.iconst 2, 1) := by decide +kernel
theorem dL_isPassable_22 : decode cL_isPassable 22 = .ok (.invokevirtual 56, 3) := by decide +kernel
theorem dL_isPassable_25 : decode cL_isPassable 25 = .ok (.ifCond .ne 25, 3) := by decide +kernel
theorem dL_isPassable_28 : decode cL_isPassable 28 = .ok (.aload_n 0, 1) := by decide +kernel
theorem dL_isPassable_29 : decode cL_isPassable 29 = .ok (.aload_n 1, 1) := by decide +kernel
theorem dL_isPassable_30 : decode cL_isPassable 30 = .ok (.iload_n 2, 1) := by decide +kernel
theorem dL_isPassable_31 : decode cL_isPassable 31 = .ok (.iaload, 1) := by decide +kernel
theorem dL_isPassable_32 : decode cL_isPassable 32 = .ok (.iconst 5, 1) := by decide +kernel
theorem dL_isPassable_33 : decode cL_isPassable 33 = .ok (.idiv, 1) := by decide +kernel
theorem dL_isPassable_34 : decode cL_isPassable 34 = .ok (.aload_n 1, 1) := by decide +kernel
theorem dL_isPassable_35 : decode cL_isPassable 35 = .ok (.iload_n 2, 1) := by decide +kernel
theorem dL_isPassable_36 : decode cL_isPassable 36 = .ok (.iaload, 1) := by decide +kernel
theorem dL_isPassable_37 : decode cL_isPassable 37 = .ok (.iconst 5, 1) := by decide +kernel
theorem dL_isPassable_38 : decode cL_isPassable 38 = .ok (.irem, 1) := by decide +kernel
theorem dL_isPassable_39 : decode cL_isPassable 39 = .ok (.iconst 2, 1) := by decide +kernel
theorem dL_isPassable_40 : decode cL_isPassable 40 = .ok (.invokevirtual 56, 3) := by decide +kernel
theorem dL_isPassable_43 : decode cL_isPassable 43 = .ok (.ifCond .ne 7, 3) := by decide +kernel
theorem dL_isPassable_46 : decode cL_isPassable 46 = .ok (.iconst 1, 1) := by decide +kernel
theorem dL_isPassable_47 : decode cL_isPassable 47 = .ok (.goto 4, 3) := by decide +kernel
theorem dL_isPassable_50 : decode cL_isPassable 50 = .ok (.iconst 0, 1) := by decide +kernel
theorem dL_isPassable_51 : decode cL_isPassable 51 = .ok (.ireturn, 1) := by decide +kernel
theorem dL_isBetter_0 : decode cL_isBetter 0 = .ok (.aload_n 0, 1) := by decide +kernel
theorem dL_isBetter_1 : decode cL_isBetter 1 = .ok (.iload_n 1, 1) := by decide +kernel
theorem dL_isBetter_2 : decode cL_isBetter 2 = .ok (.iaload, 1) := by decide +kernel
theorem dL_isBetter_3 : decode cL_isBetter 3 = .ok (.aload_n 0, 1) := by decide +kernel
theorem dL_isBetter_4 : decode cL_isBetter 4 = .ok (.iload_n 2, 1) := by decide +kernel
theorem dL_isBetter_5 : decode cL_isBetter 5 = .ok (.iaload, 1) := by decide +kernel
theorem dL_isBetter_6 : decode cL_isBetter 6 = .ok (.if_icmp .lt 17, 3) := by decide +kernel
theorem dL_isBetter_9 : decode cL_isBetter 9 = .ok (.aload_n 0, 1) := by decide +kernel
theorem dL_isBetter_10 : decode cL_isBetter 10 = .ok (.iload_n 1, 1) := by decide +kernel
theorem dL_isBetter_11 : decode cL_isBetter 11 = .ok (.iaload, 1) := by decide +kernel
theorem dL_isBetter_12 : decode cL_isBetter 12 = .ok (.aload_n 0, 1) := by decide +kernel
theorem dL_isBetter_13 : decode cL_isBetter 13 = .ok (.iload_n 2, 1) := by decide +kernel
theorem dL_isBetter_14 : decode cL_isBetter 14 = .ok (.iaload, 1) := by decide +kernel
theorem dL_isBetter_15 : decode cL_isBetter 15 = .ok (.if_icmp .ne 12, 3) := by decide +kernel
theorem dL_isBetter_18 : decode cL_isBetter 18 = .ok (.iload_n 1, 1) := by decide +kernel
theorem dL_isBetter_19 : decode cL_isBetter 19 = .ok (.iload_n 2, 1) := by decide +kernel
theorem dL_isBetter_20 : decode cL_isBetter 20 = .ok (.if_icmp .ge 7, 3) := by decide +kernel
theorem dL_isBetter_23 : decode cL_isBetter 23 = .ok (.iconst 1, 1) := by decide +kernel
theorem dL_isBetter_24 : decode cL_isBetter 24 = .ok (.goto 4, 3) := by decide +kernel
theorem dL_isBetter_27 : decode cL_isBetter 27 = .ok (.iconst 0, 1) := by decide +kernel
theorem dL_isBetter_28 : decode cL_isBetter 28 = .ok (.ireturn, 1) := by decide +kernel
set_option maxRecDepth 20000 in
theorem ggL_found_L_isPassable : GoodIn wsL_found wsL_isPassable := goodIn_ca (goodIn_ca (goodIn_r _ [6, 7, 8, 9, 10, 11, 12, 13, 14, 15, 16, 17, 18, 19, 20, 21, 22, 23, 24, 25, 26, 27, 28, 29, 30, 31, 32, 33, 34, 38, 39, 40, 41, 42, 43, 44, 45, 46, 47, 48, 49, 50, 51, 52, 53, 54, 55, 56, 57, 58, 59, 60, 61, 62, 63] (by decide +kernel) (by decide +kernel)) (goodIn_sub (fun _ h => List.mem_cons_of_mem _ (List.mem_append_left _ (List.mem_append_right _ h))) (by decide +kernel))) (goodIn_sub (fun _ h => List.mem_cons_of_mem _ (List.mem_append_right _ h)) (by decide +kernel))
set_option maxRecDepth 20000 in
theorem gL_found_L_isPassable : GoodIn wsL_found (va_wsS RL 87 yL_isPassable wsL_isPassable) := goodIn_app (goodIn_of _ (by decide +kernel)) ggL_found_L_isPassable
set_option maxRecDepth 20000 in
theorem ggL_found_L_isBetter : GoodIn wsL_found wsL_isBetter := goodIn_r _ [37] (by decide +kernel) (by decide +kernel)
set_option maxRecDepth 20000 in
theorem gL_found_L_isBetter : GoodIn wsL_found (va_wsS RL 91 yL_isBetter wsL_isBetter) := goodIn_app (goodIn_of _ (by decide +kernel)) ggL_found_L_isBetter
theorem dL_found_0 : decode cL_found 0 = .ok (.bipush 6, 2) := by decide +kernel
theorem dL_found_2 : decode cL_found 2 = .ok (.newarray .int, 2) := by decide +kernel
theorem dL_found_4 : decode cL_found 4 = .ok (.astore 5, 2) := by decide +kernel
theorem dL_found_6 : decode cL_found 6 = .ok (.iconst 0, 1) := by decide +kernel
theorem dL_found_7 : decode cL_found 7 = .ok (.istore 6, 2) := by decide +kernel
theorem dL_found_9 : decode cL_found 9 = .ok (.iload 6, 2) := by decide +kernel
theorem dL_found_11 : decode cL_found 11 = .ok (.bipush 6, 2) := by decide +kernel
theorem dL_found_13 : decode cL_found 13 = .ok (.if_icmp .ge 27, 3) := by decide +kernel
theorem dL_found_16 : decode cL_found 16 = .ok (.aload 5, 2) := by decide +kernel
theorem dL_found_18 : decode cL_found 18 = .ok (.iload 6, 2) := by decide +kernel
theorem dL_found_20 : decode cL_found 20 = .ok (.iload 6, 2) := by decide +kernel
theorem dL_found_22 : decode cL_found 22 = .ok (.iload 4, 2) := by decide +kernel
theorem dL_found_24 : decode cL_found 24 = .ok (.if_icmp .ne 7, 3) := by decide +kernel
theorem dL_found_27 : decode cL_found 27 = .ok (.iconst 0, 1) := by decide +kernel
theorem dL_found_28 : decode cL_found 28 = .ok (.goto 5, 3) := by decide +kernel
theorem dL_found_31 : decode cL_found 31 = .ok (.ldc 86, 2) := by decide +kernel
theorem dL_found_33 : decode cL_found 33 = .ok (.iastore, 1) := by decide +kernel
theorem dL_found_34 : decode cL_found 34 = .ok (.iinc 6 1, 3) := by decide +kernel
theorem dL_found_37 : decode cL_found 37 = .ok (.goto (-28), 3) := by decide +kernel
theorem dL_found_40 : decode cL_found 40 = .ok (.iconst 0, 1) := by decide +kernel
theorem dL_found_41 : decode cL_found 41 = .ok (.istore 6, 2) := by decide +kernel
theorem dL_found_43 : decode cL_found 43 = .ok (.iload 6, 2) := by decide +kernel
theorem dL_found_45 : decode cL_found 45 = .ok (.sipush 180, 3) := by decide +kernel
theorem dL_found_48 : decode cL_found 48 = .ok (.if_icmp .ge 77, 3) := by decide +kernel
theorem dL_found_51 : decode cL_found 51 = .ok (.iload 6, 2) := by decide +kernel
theorem dL_found_53 : decode cL_found 53 = .ok (.bipush 30, 2) := by decide +kernel
theorem dL_found_55 : decode cL_found 55 = .ok (.irem, 1) := by decide +kernel
theorem dL_found_56 : decode cL_found 56 = .ok (.istore 7, 2) := by decide +kernel
theorem dL_found_58 : decode cL_found 58 = .ok (.aload_n 0, 1) := by decide +kernel
theorem dL_found_59 : decode cL_found 59 = .ok (.aload_n 1, 1) := by decide +kernel
theorem dL_found_60 : decode cL_found 60 = .ok (.iload 7, 2) := by decide +kernel
theorem dL_found_62 : decode cL_found 62 = .ok (.invokestatic 87, 3) := by decide +kernel
theorem dL_found_65 : decode cL_found 65 = .ok (.ifCond .eq 54, 3) := by decide +kernel
theorem dL_found_68 : decode cL_found 68 = .ok (.aload 5, 2) := by decide +kernel
theorem dL_found_70 : decode cL_found 70 = .ok (.iload 7, 2) := by decide +kernel
theorem dL_found_72 : decode cL_found 72 = .ok (.iconst 5, 1) := by decide +kernel
theorem dL_found_73 : decode cL_found 73 = .ok (.idiv, 1) := by decide +kernel
theorem dL_found_74 : decode cL_found 74 = .ok (.iaload, 1) := by decide +kernel
theorem dL_found_75 : decode cL_found 75 = .ok (.aload_n 2, 1) := by decide +kernel
theorem dL_found_76 : decode cL_found 76 = .ok (.iload 7, 2) := by decide +kernel
theorem dL_found_78 : decode cL_found 78 = .ok (.iaload, 1) := by decide +kernel
theorem dL_found_79 : decode cL_found 79 = .ok (.iadd, 1) := by decide +kernel
theorem dL_found_80 : decode cL_found 80 = .ok (.istore 8, 2) := by decide +kernel
theorem dL_found_82 : decode cL_found 82 = .ok (.aload 5, 2) := by decide +kernel
theorem dL_found_84 : decode cL_found 84 = .ok (.aload_n 1, 1) := by decide +kernel
theorem dL_found_85 : decode cL_found 85 = .ok (.iload 7, 2) := by decide +kernel
theorem dL_found_87 : decode cL_found 87 = .ok (.iaload, 1) := by decide +kernel
theorem dL_found_88 : decode cL_found 88 = .ok (.iconst 5, 1) := by decide +kernel
theorem dL_found_89 : decode cL_found 89 = .ok (.idiv, 1) := by decide +kernel
theorem dL_found_90 : decode cL_found 90 = .ok (.iload 8, 2) := by decide +kernel
theorem dL_found_92 : decode cL_found 92 = .ok (.aload 5, 2) := by decide +kernel
theorem dL_found_94 : decode cL_found 94 = .ok (.aload_n 1, 1) := by decide +kernel
theorem dL_found_95 : decode cL_found 95 = .ok (.iload 7, 2) := by decide +kernel
theorem dL_found_97 : decode cL_found 97 = .ok (.iaload, 1) := by decide +kernel
theorem dL_found_98 : decode cL_found 98 = .ok (.iconst 5, 1) := by decide +kernel
theorem dL_found_99 : decode cL_found 99 = .ok (.idiv, 1) := by decide +kernel
theorem dL_found_100 : decode cL_found 100 = .ok (.iaload, 1) := by decide +kernel
theorem dL_found_101 : decode cL_found 101 = .ok (.if_icmp .ge 8, 3) := by decide +kernel
theorem dL_found_104 : decode cL_found 104 = .ok (.iload 8, 2) := by decide +kernel
theorem dL_found_106 : decode cL_found 106 = .ok (.goto 12, 3) := by decide +kernel
theorem dL_found_109 : decode cL_found 109 = .ok (.aload 5, 2) := by decide +kernel
theorem dL_found_111 : decode cL_found 111 = .ok (.aload_n 1, 1) := by decide +kernel
theorem dL_found_112 : decode cL_found 112 = .ok (.iload 7, 2) := by decide +kernel
theorem dL_found_114 : decode cL_found 114 = .ok (.iaload, 1) := by decide +kernel
theorem dL_found_115 : decode cL_found 115 = .ok (.iconst 5, 1) := by decide +kernel
theorem dL_found_116 : decode cL_found 116 = .ok (.idiv, 1) := by decide +kernel
theorem dL_found_117 : decode cL_found 117 = .ok (.iaload, 1) := by decide +kernel
theorem dL_found_118 : decode cL_found 118 = .ok (.iastore, 1) := by decide +kernel
theorem dL_found_119 : decode cL_found 119 = .ok (.iinc 6 1, 3) := by decide +kernel
theorem dL_found_122 : decode cL_found 122 = .ok (.goto (-79), 3) := by decide +kernel
theorem dL_found_125 : decode cL_found 125 = .ok (.iload 4, 2) := by decide +kernel
theorem dL_found_127 : decode cL_found 127 = .ok (.istore 6, 2) := by decide +kernel
theorem dL_found_129 : decode cL_found 129 = .ok (.iconst 0, 1) := by decide +kernel
theorem dL_found_130 : decode cL_found 130 = .ok (.istore 7, 2) := by decide +kernel
theorem dL_found_132 : decode cL_found 132 = .ok (.iload 7, 2) := by decide +kernel
theorem dL_found_134 : decode cL_found 134 = .ok (.bipush 6, 2) := by decide +kernel
theorem dL_found_136 : decode cL_found 136 = .ok (.if_icmp .ge 39, 3) := by decide +kernel
theorem dL_found_139 : decode cL_found 139 = .ok (.aload 5, 2) := by decide +kernel
theorem dL_found_141 : decode cL_found 141 = .ok (.iload 7, 2) := by decide +kernel
theorem dL_found_143 : decode cL_found 143 = .ok (.iaload, 1) := by decide +kernel
theorem dL_found_144 : decode cL_found 144 = .ok (.ldc 86, 2) := by decide +kernel
theorem dL_found_146 : decode cL_found 146 = .ok (.if_icmp .ge 19, 3) := by decide +kernel
theorem dL_found_149 : decode cL_found 149 = .ok (.aload_n 3, 1) := by decide +kernel
theorem dL_found_150 : decode cL_found 150 = .ok (.iload 7, 2) := by decide +kernel
theorem dL_found_152 : decode cL_found 152 = .ok (.iload 6, 2) := by decide +kernel
theorem dL_found_154 : decode cL_found 154 = .ok (.invokestatic 91, 3) := by decide +kernel
theorem dL_found_157 : decode cL_found 157 = .ok (.ifCond .eq 8, 3) := by decide +kernel
theorem dL_found_160 : decode cL_found 160 = .ok (.iload 7, 2) := by decide +kernel
theorem dL_found_162 : decode cL_found 162 = .ok (.goto 5, 3) := by decide +kernel
theorem dL_found_165 : decode cL_found 165 = .ok (.iload 6, 2) := by decide +kernel
theorem dL_found_167 : decode cL_found 167 = .ok (.istore 6, 2) := by decide +kernel
theorem dL_found_169 : decode cL_found 169 = .ok (.iinc 7 1, 3) := by decide +kernel
theorem dL_found_172 : decode cL_found 172 = .ok (.goto (-40), 3) := by decide +kernel
theorem dL_found_175 : decode cL_found 175 = .ok (.sipush 1000, 3) := by decide +kernel
theorem dL_found_178 : decode cL_found 178 = .ok (.iload 6, 2) := by decide +kernel
theorem dL_found_180 : decode cL_found 180 = .ok (.imul, 1) := by decide +kernel
theorem dL_found_181 : decode cL_found 181 = .ok (.aload 5, 2) := by decide +kernel
theorem dL_found_183 : decode cL_found 183 = .ok (.iload 6, 2) := by decide +kernel
theorem dL_found_185 : decode cL_found 185 = .ok (.iaload, 1) := by decide +kernel
theorem dL_found_186 : decode cL_found 186 = .ok (.iadd, 1) := by decide +kernel
theorem dL_found_187 : decode cL_found 187 = .ok (.ireturn, 1) := by decide +kernel
set_option maxRecDepth 20000 in
theorem ggL_isTree_X5_holds : GoodIn wsL_isTree wsX5_holds := goodIn_ca (goodIn_ca (goodIn_r _ [5, 6, 7, 8, 9, 10, 11, 12, 13, 14, 15, 16, 4, 17, 18, 19, 51, 52, 53, 54, 55, 56, 57, 58, 59, 60, 61, 62, 63, 64, 65, 66, 67, 68, 69, 70, 71, 72, 73, 74, 75, 76, 77, 78, 79] (by decide +kernel) (by decide +kernel)) (goodIn_sub (fun _ h => List.mem_cons_of_mem _ (List.mem_append_left _ (List.mem_append_right _ h))) (by decide +kernel))) (goodIn_sub (fun _ h => List.mem_cons_of_mem _ (List.mem_append_right _ h)) (by decide +kernel))
set_option maxRecDepth 20000 in
theorem gL_isTree_X5_holds : GoodIn wsL_isTree (wsV RL 53 RX5 yX5_holds wsX5_holds) := goodIn_app (goodIn_of _ (by decide +kernel)) ggL_isTree_X5_holds
set_option maxRecDepth 20000 in
theorem ggL_isTree_L_found : GoodIn wsL_isTree wsL_found := goodIn_ca (goodIn_ca (goodIn_r _ [23, 24, 25, 26, 27, 22, 28, 29, 30, 31, 4, 32, 6, 7, 8, 33, 34, 35, 36, 37, 38, 18, 19, 15, 16, 17, 39, 40, 41, 42, 43, 44, 45, 46, 47, 48, 49, 50, 51, 52, 53, 54, 55, 56, 57, 58, 59, 60, 61, 62, 63, 64, 65, 66, 67, 68, 69, 70, 71, 72, 73, 74, 75, 76] (by decide +kernel) (by decide +kernel)) (goodIn_sub (fun _ h => List.mem_cons_of_mem _ (List.mem_append_left _ (List.mem_append_right _ h))) (by decide +kernel))) (goodIn_sub (fun _ h => List.mem_cons_of_mem _ (List.mem_append_right _ h)) (by decide +kernel))
set_option maxRecDepth 20000 in
theorem gL_isTree_L_found : GoodIn wsL_isTree (va_wsS RL 95 yL_found wsL_found) := goodIn_app (goodIn_of _ (by decide +kernel)) ggL_isTree_L_found
set_option maxRecDepth 20000 in
theorem ggL_isTree_X5_port : GoodIn wsL_isTree wsX5_port := goodIn_ca (goodIn_ca (goodIn_r _ [32, 6, 7, 8, 33, 34, 35, 36, 37, 4, 38, 18, 19, 15, 16, 17, 39, 40, 41, 42, 43, 44, 45, 46, 47, 51, 52, 53, 54, 55, 56, 57, 58, 59, 60, 61, 62, 63, 64, 65, 66, 67, 68, 69, 70, 71, 72, 73, 74, 75, 76] (by decide +kernel) (by decide +kernel)) (goodIn_sub (fun _ h => List.mem_cons_of_mem _ (List.mem_append_left _ (List.mem_append_right _ h))) (by decide +kernel))) (goodIn_sub (fun _ h => List.mem_cons_of_mem _ (List.mem_append_right _ h)) (by decide +kernel))
set_option maxRecDepth 20000 in
theorem gL_isTree_X5_port : GoodIn wsL_isTree (wsV RL 56 RX5 yX5_port wsX5_port) := goodIn_app (goodIn_of _ (by decide +kernel)) ggL_isTree_X5_port
set_option maxRecDepth 20000 in
theorem ggL_isTree_L_isPassable : GoodIn wsL_isTree wsL_isPassable := goodIn_ca (goodIn_ca (goodIn_r _ [28, 29, 30, 31, 4, 32, 6, 7, 8, 33, 34, 35, 36, 37, 38, 18, 19, 15, 16, 17, 39, 40, 41, 42, 43, 44, 45, 46, 47, 51, 52, 53, 54, 55, 56, 57, 58, 59, 60, 61, 62, 63, 64, 65, 66, 67, 68, 69, 70, 71, 72, 73, 74, 75, 76] (by decide +kernel) (by decide +kernel)) (goodIn_sub (fun _ h => List.mem_cons_of_mem _ (List.mem_append_left _ (List.mem_append_right _ h))) (by decide +kernel))) (goodIn_sub (fun _ h => List.mem_cons_of_mem _ (List.mem_append_right _ h)) (by decide +kernel))
set_option maxRecDepth 20000 in
theorem gL_isTree_L_isPassable : GoodIn wsL_isTree (va_wsS RL 87 yL_isPassable wsL_isPassable) := goodIn_app (goodIn_of _ (by decide +kernel)) ggL_isTree_L_isPassable
theorem dL_isTree_0 : decode cL_isTree 0 = .ok (.iconst 1, 1) := by decide +kernel
theorem dL_isTree_1 : decode cL_isTree 1 = .ok (.istore 4, 2) := by decide +kernel
theorem dL_isTree_3 : decode cL_isTree 3 = .ok (.iconst 0, 1) := by decide +kernel
theorem dL_isTree_4 : decode cL_isTree 4 = .ok (.istore 5, 2) := by decide +kernel
theorem dL_isTree_6 : decode cL_isTree 6 = .ok (.iconst 0, 1) := by decide +kernel
theorem dL_isTree_7 : decode cL_isTree 7 = .ok (.istore 6, 2) := by decide +kernel
theorem dL_isTree_9 : decode cL_isTree 9 = .ok (.iconst 0, 1) := by decide +kernel
theorem dL_isTree_10 : decode cL_isTree 10 = .ok (.istore 7, 2) := by decide +kernel
theorem dL_isTree_12 : decode cL_isTree 12 = .ok (.iload 7, 2) := by decide +kernel
theorem dL_isTree_14 : decode cL_isTree 14 = .ok (.bipush 6, 2) := by decide +kernel
theorem dL_isTree_16 : decode cL_isTree 16 = .ok (.if_icmp .ge 211, 3) := by decide +kernel
theorem dL_isTree_19 : decode cL_isTree 19 = .ok (.iload 4, 2) := by decide +kernel
theorem dL_isTree_21 : decode cL_isTree 21 = .ok (.ifCond .eq 206, 3) := by decide +kernel
theorem dL_isTree_24 : decode cL_isTree 24 = .ok (.aload_n 0, 1) := by decide +kernel
theorem dL_isTree_25 : decode cL_isTree 25 = .ok (.iload 7, 2) := by decide +kernel
theorem dL_isTree_27 : decode cL_isTree 27 = .ok (.iconst 0, 1) := by decide +kernel
theorem dL_isTree_28 : decode cL_isTree 28 = .ok (.invokevirtual 53, 3) := by decide +kernel
theorem dL_isTree_31 : decode cL_isTree 31 = .ok (.istore 8, 2) := by decide +kernel
theorem dL_isTree_33 : decode cL_isTree 33 = .ok (.aload_n 0, 1) := by decide +kernel
theorem dL_isTree_34 : decode cL_isTree 34 = .ok (.iload 7, 2) := by decide +kernel
theorem dL_isTree_36 : decode cL_isTree 36 = .ok (.iconst 1, 1) := by decide +kernel
theorem dL_isTree_37 : decode cL_isTree 37 = .ok (.invokevirtual 53, 3) := by decide +kernel
theorem dL_isTree_40 : decode cL_isTree 40 = .ok (.istore 9, 2) := by decide +kernel
theorem dL_isTree_42 : decode cL_isTree 42 = .ok (.aload_n 0, 1) := by decide +kernel
theorem dL_isTree_43 : decode cL_isTree 43 = .ok (.aload_n 1, 1) := by decide +kernel
theorem dL_isTree_44 : decode cL_isTree 44 = .ok (.aload_n 2, 1) := by decide +kernel
theorem dL_isTree_45 : decode cL_isTree 45 = .ok (.aload_n 3, 1) := by decide +kernel
theorem dL_isTree_46 : decode cL_isTree 46 = .ok (.iload 7, 2) := by decide +kernel
theorem dL_isTree_48 : decode cL_isTree 48 = .ok (.invokestatic 95, 3) := by decide +kernel
theorem dL_isTree_51 : decode cL_isTree 51 = .ok (.sipush 1000, 3) := by decide +kernel
theorem dL_isTree_54 : decode cL_isTree 54 = .ok (.iload 8, 2) := by decide +kernel
theorem dL_isTree_56 : decode cL_isTree 56 = .ok (.imul, 1) := by decide +kernel
theorem dL_isTree_57 : decode cL_isTree 57 = .ok (.iload 9, 2) := by decide +kernel
theorem dL_isTree_59 : decode cL_isTree 59 = .ok (.iadd, 1) := by decide +kernel
theorem dL_isTree_60 : decode cL_isTree 60 = .ok (.if_icmp .ne 7, 3) := by decide +kernel
theorem dL_isTree_63 : decode cL_isTree 63 = .ok (.iconst 1, 1) := by decide +kernel
theorem dL_isTree_64 : decode cL_isTree 64 = .ok (.goto 4, 3) := by decide +kernel
theorem dL_isTree_67 : decode cL_isTree 67 = .ok (.iconst 0, 1) := by decide +kernel
theorem dL_isTree_68 : decode cL_isTree 68 = .ok (.istore 4, 2) := by decide +kernel
theorem dL_isTree_70 : decode cL_isTree 70 = .ok (.iload 6, 2) := by decide +kernel
theorem dL_isTree_72 : decode cL_isTree 72 = .ok (.iload 8, 2) := by decide +kernel
theorem dL_isTree_74 : decode cL_isTree 74 = .ok (.iload 7, 2) := by decide +kernel
theorem dL_isTree_76 : decode cL_isTree 76 = .ok (.if_icmp .ne 7, 3) := by decide +kernel
theorem dL_isTree_79 : decode cL_isTree 79 = .ok (.iconst 1, 1) := by decide +kernel
theorem dL_isTree_80 : decode cL_isTree 80 = .ok (.goto 4, 3) := by decide +kernel
theorem dL_isTree_83 : decode cL_isTree 83 = .ok (.iconst 0, 1) := by decide +kernel
theorem dL_isTree_84 : decode cL_isTree 84 = .ok (.iadd, 1) := by decide +kernel
theorem dL_isTree_85 : decode cL_isTree 85 = .ok (.istore 6, 2) := by decide +kernel
theorem dL_isTree_87 : decode cL_isTree 87 = .ok (.aload_n 0, 1) := by decide +kernel
theorem dL_isTree_88 : decode cL_isTree 88 = .ok (.iload 7, 2) := by decide +kernel
theorem dL_isTree_90 : decode cL_isTree 90 = .ok (.iconst 3, 1) := by decide +kernel
theorem dL_isTree_91 : decode cL_isTree 91 = .ok (.invokevirtual 53, 3) := by decide +kernel
theorem dL_isTree_94 : decode cL_isTree 94 = .ok (.istore 10, 2) := by decide +kernel
theorem dL_isTree_96 : decode cL_isTree 96 = .ok (.iload 4, 2) := by decide +kernel
theorem dL_isTree_98 : decode cL_isTree 98 = .ok (.ifCond .eq 120, 3) := by decide +kernel
theorem dL_isTree_101 : decode cL_isTree 101 = .ok (.iload 10, 2) := by decide +kernel
theorem dL_isTree_103 : decode cL_isTree 103 = .ok (.ifCond .ge 7, 3) := by decide +kernel
theorem dL_isTree_106 : decode cL_isTree 106 = .ok (.iconst 1, 1) := by decide +kernel
theorem dL_isTree_107 : decode cL_isTree 107 = .ok (.goto 4, 3) := by decide +kernel
theorem dL_isTree_110 : decode cL_isTree 110 = .ok (.iconst 0, 1) := by decide +kernel
theorem dL_isTree_111 : decode cL_isTree 111 = .ok (.iload 8, 2) := by decide +kernel
theorem dL_isTree_113 : decode cL_isTree 113 = .ok (.iload 7, 2) := by decide +kernel
theorem dL_isTree_115 : decode cL_isTree 115 = .ok (.if_icmp .ne 7, 3) := by decide +kernel
theorem dL_isTree_118 : decode cL_isTree 118 = .ok (.iconst 1, 1) := by decide +kernel
theorem dL_isTree_119 : decode cL_isTree 119 = .ok (.goto 4, 3) := by decide +kernel
theorem dL_isTree_122 : decode cL_isTree 122 = .ok (.iconst 0, 1) := by decide +kernel
theorem dL_isTree_123 : decode cL_isTree 123 = .ok (.if_icmp .ne 95, 3) := by decide +kernel
theorem dL_isTree_126 : decode cL_isTree 126 = .ok (.iload 10, 2) := by decide +kernel
theorem dL_isTree_128 : decode cL_isTree 128 = .ok (.ifCond .lt 86, 3) := by decide +kernel
theorem dL_isTree_131 : decode cL_isTree 131 = .ok (.aload_n 1, 1) := by decide +kernel
theorem dL_isTree_132 : decode cL_isTree 132 = .ok (.iconst 5, 1) := by decide +kernel
theorem dL_isTree_133 : decode cL_isTree 133 = .ok (.iload 7, 2) := by decide +kernel
theorem dL_isTree_135 : decode cL_isTree 135 = .ok (.imul, 1) := by decide +kernel
theorem dL_isTree_136 : decode cL_isTree 136 = .ok (.iload 10, 2) := by decide +kernel
theorem dL_isTree_138 : decode cL_isTree 138 = .ok (.iadd, 1) := by decide +kernel
theorem dL_isTree_139 : decode cL_isTree 139 = .ok (.iaload, 1) := by decide +kernel
theorem dL_isTree_140 : decode cL_isTree 140 = .ok (.ifCond .lt 78, 3) := by decide +kernel
theorem dL_isTree_143 : decode cL_isTree 143 = .ok (.aload_n 1, 1) := by decide +kernel
theorem dL_isTree_144 : decode cL_isTree 144 = .ok (.iconst 5, 1) := by decide +kernel
theorem dL_isTree_145 : decode cL_isTree 145 = .ok (.iload 7, 2) := by decide +kernel
theorem dL_isTree_147 : decode cL_isTree 147 = .ok (.imul, 1) := by decide +kernel
theorem dL_isTree_148 : decode cL_isTree 148 = .ok (.iload 10, 2) := by decide +kernel
theorem dL_isTree_150 : decode cL_isTree 150 = .ok (.iadd, 1) := by decide +kernel
theorem dL_isTree_151 : decode cL_isTree 151 = .ok (.iaload, 1) := by decide +kernel
theorem dL_isTree_152 : decode cL_isTree 152 = .ok (.bipush 100, 2) := by decide +kernel
theorem dL_isTree_154 : decode cL_isTree 154 = .ok (.if_icmp .ge 64, 3) := by decide +kernel
theorem dL_isTree_157 : decode cL_isTree 157 = .ok (.aload_n 0, 1) := by decide +kernel
theorem dL_isTree_158 : decode cL_isTree 158 = .ok (.iload 7, 2) := by decide +kernel
theorem dL_isTree_160 : decode cL_isTree 160 = .ok (.iload 10, 2) := by decide +kernel
theorem dL_isTree_162 : decode cL_isTree 162 = .ok (.iconst 0, 1) := by decide +kernel
theorem dL_isTree_163 : decode cL_isTree 163 = .ok (.invokevirtual 56, 3) := by decide +kernel
theorem dL_isTree_166 : decode cL_isTree 166 = .ok (.iconst 1, 1) := by decide +kernel
theorem dL_isTree_167 : decode cL_isTree 167 = .ok (.if_icmp .ne 51, 3) := by decide +kernel
theorem dL_isTree_170 : decode cL_isTree 170 = .ok (.aload_n 0, 1) := by decide +kernel
theorem dL_isTree_171 : decode cL_isTree 171 = .ok (.iload 7, 2) := by decide +kernel
theorem dL_isTree_173 : decode cL_isTree 173 = .ok (.iload 10, 2) := by decide +kernel
theorem dL_isTree_175 : decode cL_isTree 175 = .ok (.iconst 1, 1) := by decide +kernel
theorem dL_isTree_176 : decode cL_isTree 176 = .ok (.invokevirtual 56, 3) := by decide +kernel
theorem dL_isTree_179 : decode cL_isTree 179 = .ok (.iconst 1, 1) := by decide +kernel
theorem dL_isTree_180 : decode cL_isTree 180 = .ok (.if_icmp .ne 38, 3) := by decide +kernel
theorem dL_isTree_183 : decode cL_isTree 183 = .ok (.aload_n 0, 1) := by decide +kernel
theorem dL_isTree_184 : decode cL_isTree 184 = .ok (.aload_n 1, 1) := by decide +kernel
theorem dL_isTree_185 : decode cL_isTree 185 = .ok (.iconst 5, 1) := by decide +kernel
theorem dL_isTree_186 : decode cL_isTree 186 = .ok (.iload 7, 2) := by decide +kernel
theorem dL_isTree_188 : decode cL_isTree 188 = .ok (.imul, 1) := by decide +kernel
theorem dL_isTree_189 : decode cL_isTree 189 = .ok (.iload 10, 2) := by decide +kernel
theorem dL_isTree_191 : decode cL_isTree 191 = .ok (.iadd, 1) := by decide +kernel
theorem dL_isTree_192 : decode cL_isTree 192 = .ok (.iaload, 1) := by decide +kernel
theorem dL_isTree_193 : decode cL_isTree 193 = .ok (.iconst 5, 1) := by decide +kernel
theorem dL_isTree_194 : decode cL_isTree 194 = .ok (.idiv, 1) := by decide +kernel
theorem dL_isTree_195 : decode cL_isTree 195 = .ok (.iconst 1, 1) := by decide +kernel
theorem dL_isTree_196 : decode cL_isTree 196 = .ok (.invokevirtual 53, 3) := by decide +kernel
theorem dL_isTree_199 : decode cL_isTree 199 = .ok (.aload_n 2, 1) := by decide +kernel
theorem dL_isTree_200 : decode cL_isTree 200 = .ok (.iconst 5, 1) := by decide +kernel
theorem dL_isTree_201 : decode cL_isTree 201 = .ok (.iload 7, 2) := by decide +kernel
theorem dL_isTree_203 : decode cL_isTree 203 = .ok (.imul, 1) := by decide +kernel
theorem dL_isTree_204 : decode cL_isTree 204 = .ok (.iload 10, 2) := by decide +kernel
theorem dL_isTree_206 : decode cL_isTree 206 = .ok (.iadd, 1) := by decide +kernel
theorem dL_isTree_207 : decode cL_isTree 207 = .ok (.iaload, 1) := by decide +kernel
theorem dL_isTree_208 : decode cL_isTree 208 = .ok (.iadd, 1) := by decide +kernel
theorem dL_isTree_209 : decode cL_isTree 209 = .ok (.iload 9, 2) := by decide +kernel
theorem dL_isTree_211 : decode cL_isTree 211 = .ok (.if_icmp .ne 7, 3) := by decide +kernel
theorem dL_isTree_214 : decode cL_isTree 214 = .ok (.iconst 1, 1) := by decide +kernel
theorem dL_isTree_215 : decode cL_isTree 215 = .ok (.goto 4, 3) := by decide +kernel
theorem dL_isTree_218 : decode cL_isTree 218 = .ok (.iconst 0, 1) := by decide +kernel
theorem dL_isTree_219 : decode cL_isTree 219 = .ok (.istore 4, 2) := by decide +kernel
theorem dL_isTree_221 : decode cL_isTree 221 = .ok (.iinc 7 1, 3) := by decide +kernel
theorem dL_isTree_224 : decode cL_isTree 224 = .ok (.goto (-212), 3) := by decide +kernel
theorem dL_isTree_227 : decode cL_isTree 227 = .ok (.iconst 0, 1) := by decide +kernel
theorem dL_isTree_228 : decode cL_isTree 228 = .ok (.istore 7, 2) := by decide +kernel
theorem dL_isTree_230 : decode cL_isTree 230 = .ok (.iload 7, 2) := by decide +kernel
theorem dL_isTree_232 : decode cL_isTree 232 = .ok (.bipush 30, 2) := by decide +kernel
theorem dL_isTree_234 : decode cL_isTree 234 = .ok (.if_icmp .ge 159, 3) := by decide +kernel
theorem dL_isTree_237 : decode cL_isTree 237 = .ok (.iload 4, 2) := by decide +kernel
theorem dL_isTree_239 : decode cL_isTree 239 = .ok (.ifCond .eq 154, 3) := by decide +kernel
theorem dL_isTree_242 : decode cL_isTree 242 = .ok (.aload_n 1, 1) := by decide +kernel
theorem dL_isTree_243 : decode cL_isTree 243 = .ok (.iload 7, 2) := by decide +kernel
theorem dL_isTree_245 : decode cL_isTree 245 = .ok (.iaload, 1) := by decide +kernel
theorem dL_isTree_246 : decode cL_isTree 246 = .ok (.ifCond .lt 16, 3) := by decide +kernel
theorem dL_isTree_249 : decode cL_isTree 249 = .ok (.aload_n 1, 1) := by decide +kernel
theorem dL_isTree_250 : decode cL_isTree 250 = .ok (.iload 7, 2) := by decide +kernel
theorem dL_isTree_252 : decode cL_isTree 252 = .ok (.iaload, 1) := by decide +kernel
theorem dL_isTree_253 : decode cL_isTree 253 = .ok (.bipush 100, 2) := by decide +kernel
theorem dL_isTree_255 : decode cL_isTree 255 = .ok (.if_icmp .ge 7, 3) := by decide +kernel
theorem dL_isTree_258 : decode cL_isTree 258 = .ok (.iconst 1, 1) := by decide +kernel
theorem dL_isTree_259 : decode cL_isTree 259 = .ok (.goto 4, 3) := by decide +kernel
theorem dL_isTree_262 : decode cL_isTree 262 = .ok (.iconst 0, 1) := by decide +kernel
theorem dL_isTree_263 : decode cL_isTree 263 = .ok (.istore 8, 2) := by decide +kernel
theorem dL_isTree_265 : decode cL_isTree 265 = .ok (.iload 5, 2) := by decide +kernel
theorem dL_isTree_267 : decode cL_isTree 267 = .ok (.iload 8, 2) := by decide +kernel
theorem dL_isTree_269 : decode cL_isTree 269 = .ok (.ifCond .eq 54, 3) := by decide +kernel
theorem dL_isTree_272 : decode cL_isTree 272 = .ok (.aload_n 0, 1) := by decide +kernel
theorem dL_isTree_273 : decode cL_isTree 273 = .ok (.iload 7, 2) := by decide +kernel
theorem dL_isTree_275 : decode cL_isTree 275 = .ok (.iconst 5, 1) := by decide +kernel
theorem dL_isTree_276 : decode cL_isTree 276 = .ok (.idiv, 1) := by decide +kernel
theorem dL_isTree_277 : decode cL_isTree 277 = .ok (.iload 7, 2) := by decide +kernel
theorem dL_isTree_279 : decode cL_isTree 279 = .ok (.iconst 5, 1) := by decide +kernel
theorem dL_isTree_280 : decode cL_isTree 280 = .ok (.irem, 1) := by decide +kernel
theorem dL_isTree_281 : decode cL_isTree 281 = .ok (.iconst 0, 1) := by decide +kernel
theorem dL_isTree_282 : decode cL_isTree 282 = .ok (.invokevirtual 56, 3) := by decide +kernel
theorem dL_isTree_285 : decode cL_isTree 285 = .ok (.iconst 1, 1) := by decide +kernel
theorem dL_isTree_286 : decode cL_isTree 286 = .ok (.if_icmp .ne 37, 3) := by decide +kernel
theorem dL_isTree_289 : decode cL_isTree 289 = .ok (.aload_n 0, 1) := by decide +kernel
theorem dL_isTree_290 : decode cL_isTree 290 = .ok (.aload_n 1, 1) := by decide +kernel
theorem dL_isTree_291 : decode cL_isTree 291 = .ok (.iload 7, 2) := by decide +kernel
theorem dL_isTree_293 : decode cL_isTree 293 = .ok (.iaload, 1) := by decide +kernel
theorem dL_isTree_294 : decode cL_isTree 294 = .ok (.iconst 5, 1) := by decide +kernel
theorem dL_isTree_295 : decode cL_isTree 295 = .ok (.idiv, 1) := by decide +kernel
theorem dL_isTree_296 : decode cL_isTree 296 = .ok (.aload_n 1, 1) := by decide +kernel
theorem dL_isTree_297 : decode cL_isTree 297 = .ok (.iload 7, 2) := by decide +kernel
theorem dL_isTree_299 : decode cL_isTree 299 = .ok (.iaload, 1) := by decide +kernel
theorem dL_isTree_300 : decode cL_isTree 300 = .ok (.iconst 5, 1) := by decide +kernel
theorem dL_isTree_301 : decode cL_isTree 301 = .ok (.irem, 1) := by decide +kernel
theorem dL_isTree_302 : decode cL_isTree 302 = .ok (.iconst 0, 1) := by decide +kernel
theorem dL_isTree_303 : decode cL_isTree 303 = .ok (.invokevirtual 56, 3) := by decide +kernel
theorem dL_isTree_306 : decode cL_isTree 306 = .ok (.iconst 1, 1) := by decide +kernel
theorem dL_isTree_307 : decode cL_isTree 307 = .ok (.if_icmp .ne 16, 3) := by decide +kernel
theorem dL_isTree_310 : decode cL_isTree 310 = .ok (.iload 7, 2) := by decide +kernel
theorem dL_isTree_312 : decode cL_isTree 312 = .ok (.aload_n 1, 1) := by decide +kernel
theorem dL_isTree_313 : decode cL_isTree 313 = .ok (.iload 7, 2) := by decide +kernel
theorem dL_isTree_315 : decode cL_isTree 315 = .ok (.iaload, 1) := by decide +kernel
theorem dL_isTree_316 : decode cL_isTree 316 = .ok (.if_icmp .ge 7, 3) := by decide +kernel
theorem dL_isTree_319 : decode cL_isTree 319 = .ok (.iconst 1, 1) := by decide +kernel
theorem dL_isTree_320 : decode cL_isTree 320 = .ok (.goto 4, 3) := by decide +kernel
theorem dL_isTree_323 : decode cL_isTree 323 = .ok (.iconst 0, 1) := by decide +kernel
theorem dL_isTree_324 : decode cL_isTree 324 = .ok (.iadd, 1) := by decide +kernel
theorem dL_isTree_325 : decode cL_isTree 325 = .ok (.istore 5, 2) := by decide +kernel
theorem dL_isTree_327 : decode cL_isTree 327 = .ok (.iload 8, 2) := by decide +kernel
theorem dL_isTree_329 : decode cL_isTree 329 = .ok (.ifCond .eq 51, 3) := by decide +kernel
theorem dL_isTree_332 : decode cL_isTree 332 = .ok (.aload_n 0, 1) := by decide +kernel
theorem dL_isTree_333 : decode cL_isTree 333 = .ok (.aload_n 1, 1) := by decide +kernel
theorem dL_isTree_334 : decode cL_isTree 334 = .ok (.iload 7, 2) := by decide +kernel
theorem dL_isTree_336 : decode cL_isTree 336 = .ok (.invokestatic 87, 3) := by decide +kernel
theorem dL_isTree_339 : decode cL_isTree 339 = .ok (.ifCond .eq 41, 3) := by decide +kernel
theorem dL_isTree_342 : decode cL_isTree 342 = .ok (.aload_n 0, 1) := by decide +kernel
theorem dL_isTree_343 : decode cL_isTree 343 = .ok (.iload 7, 2) := by decide +kernel
theorem dL_isTree_345 : decode cL_isTree 345 = .ok (.iconst 5, 1) := by decide +kernel
theorem dL_isTree_346 : decode cL_isTree 346 = .ok (.idiv, 1) := by decide +kernel
theorem dL_isTree_347 : decode cL_isTree 347 = .ok (.iload 7, 2) := by decide +kernel
theorem dL_isTree_349 : decode cL_isTree 349 = .ok (.iconst 5, 1) := by decide +kernel
theorem dL_isTree_350 : decode cL_isTree 350 = .ok (.irem, 1) := by decide +kernel
theorem dL_isTree_351 : decode cL_isTree 351 = .ok (.iconst 1, 1) := by decide +kernel
theorem dL_isTree_352 : decode cL_isTree 352 = .ok (.invokevirtual 56, 3) := by decide +kernel
theorem dL_isTree_355 : decode cL_isTree 355 = .ok (.iconst 2, 1) := by decide +kernel
theorem dL_isTree_356 : decode cL_isTree 356 = .ok (.if_icmp .eq 24, 3) := by decide +kernel
theorem dL_isTree_359 : decode cL_isTree 359 = .ok (.aload_n 0, 1) := by decide +kernel
theorem dL_isTree_360 : decode cL_isTree 360 = .ok (.aload_n 1, 1) := by decide +kernel
theorem dL_isTree_361 : decode cL_isTree 361 = .ok (.iload 7, 2) := by decide +kernel
theorem dL_isTree_363 : decode cL_isTree 363 = .ok (.iaload, 1) := by decide +kernel
theorem dL_isTree_364 : decode cL_isTree 364 = .ok (.iconst 5, 1) := by decide +kernel
theorem dL_isTree_365 : decode cL_isTree 365 = .ok (.idiv, 1) := by decide +kernel
theorem dL_isTree_366 : decode cL_isTree 366 = .ok (.aload_n 1, 1) := by decide +kernel
theorem dL_isTree_367 : decode cL_isTree 367 = .ok (.iload 7, 2) := by decide +kernel
theorem dL_isTree_369 : decode cL_isTree 369 = .ok (.iaload, 1) := by decide +kernel
theorem dL_isTree_370 : decode cL_isTree 370 = .ok (.iconst 5, 1) := by decide +kernel
theorem dL_isTree_371 : decode cL_isTree 371 = .ok (.irem, 1) := by decide +kernel
theorem dL_isTree_372 : decode cL_isTree 372 = .ok (.iconst 1, 1) := by decide +kernel
theorem dL_isTree_373 : decode cL_isTree 373 = .ok (.invokevirtual 56, 3) := by decide +kernel
theorem dL_isTree_376 : decode cL_isTree 376 = .ok (.iconst 2, 1) := by decide +kernel
theorem dL_isTree_377 : decode cL_isTree 377 = .ok (.if_icmp .ne 7, 3) := by decide +kernel
theorem dL_isTree_380 : decode cL_isTree 380 = .ok (.iconst 1, 1) := by decide +kernel
theorem dL_isTree_381 : decode cL_isTree 381 = .ok (.goto 4, 3) := by decide +kernel
theorem dL_isTree_384 : decode cL_isTree 384 = .ok (.iconst 0, 1) := by decide +kernel
theorem dL_isTree_385 : decode cL_isTree 385 = .ok (.istore 4, 2) := by decide +kernel
theorem dL_isTree_387 : decode cL_isTree 387 = .ok (.iinc 7 1, 3) := by decide +kernel
theorem dL_isTree_390 : decode cL_isTree 390 = .ok (.goto (-160), 3) := by decide +kernel
theorem dL_isTree_393 : decode cL_isTree 393 = .ok (.iload 4, 2) := by decide +kernel
theorem dL_isTree_395 : decode cL_isTree 395 = .ok (.ifCond .eq 17, 3) := by decide +kernel
theorem dL_isTree_398 : decode cL_isTree 398 = .ok (.iload 5, 2) := by decide +kernel
theorem dL_isTree_400 : decode cL_isTree 400 = .ok (.bipush 6, 2) := by decide +kernel
theorem dL_isTree_402 : decode cL_isTree 402 = .ok (.iload 6, 2) := by decide +kernel
theorem dL_isTree_404 : decode cL_isTree 404 = .ok (.isub, 1) := by decide +kernel
theorem dL_isTree_405 : decode cL_isTree 405 = .ok (.if_icmp .ne 7, 3) := by decide +kernel
theorem dL_isTree_408 : decode cL_isTree 408 = .ok (.iconst 1, 1) := by decide +kernel
theorem dL_isTree_409 : decode cL_isTree 409 = .ok (.goto 4, 3) := by decide +kernel
theorem dL_isTree_412 : decode cL_isTree 412 = .ok (.iconst 0, 1) := by decide +kernel
theorem dL_isTree_413 : decode cL_isTree 413 = .ok (.ireturn, 1) := by decide +kernel
set_option maxRecDepth 20000 in
theorem ggL_areAll_X5_port : GoodIn wsL_areAll wsX5_port := goodIn_ca (goodIn_ca (goodIn_r _ [5, 6, 7, 8, 9, 10, 11, 12, 13, 4, 14, 15, 16, 17, 18, 19, 20, 21, 22, 23, 24, 25, 26, 27, 28, 105, 106, 107, 108, 109, 110, 111, 112, 113, 114, 115, 116, 117, 118, 119, 120, 121, 122, 123, 124, 125, 126, 127, 128, 129, 130] (by decide +kernel) (by decide +kernel)) (goodIn_sub (fun _ h => List.mem_cons_of_mem _ (List.mem_append_left _ (List.mem_append_right _ h))) (by decide +kernel))) (goodIn_sub (fun _ h => List.mem_cons_of_mem _ (List.mem_append_right _ h)) (by decide +kernel))
set_option maxRecDepth 20000 in
theorem gL_areAll_X5_port : GoodIn wsL_areAll (wsV RL 56 RX5 yX5_port wsX5_port) := goodIn_app (goodIn_of _ (by decide +kernel)) ggL_areAll_X5_port
set_option maxRecDepth 20000 in
theorem ggL_areAll_X5_table : GoodIn wsL_areAll wsX5_table := goodIn_ca (goodIn_r _ [32, 33, 17, 18, 4, 19, 15, 16, 34, 35, 36, 37, 38, 39, 40, 41, 42, 43, 44, 45, 46, 47, 48, 105, 106, 107, 108, 109, 110, 111, 112, 113, 114, 131, 132, 133] (by decide +kernel) (by decide +kernel)) (goodIn_sub (fun _ h => List.mem_cons_of_mem _ (List.mem_append_right _ h)) (by decide +kernel))
set_option maxRecDepth 20000 in
theorem gL_areAll_X5_table : GoodIn wsL_areAll (wsV RL 59 RX5 yX5_table wsX5_table) := goodIn_app (goodIn_of _ (by decide +kernel)) ggL_areAll_X5_table
set_option maxRecDepth 20000 in
theorem ggL_areAll_X5_holds : GoodIn wsL_areAll wsX5_holds := goodIn_ca (goodIn_ca (goodIn_r _ [52, 6, 7, 8, 53, 54, 55, 56, 33, 57, 17, 18, 4, 19, 15, 16, 105, 106, 107, 108, 109, 110, 111, 112, 113, 114, 115, 116, 117, 118, 119, 120, 121, 122, 123, 124, 125, 126, 127, 128, 129, 130, 131, 132, 133] (by decide +kernel) (by decide +kernel)) (goodIn_sub (fun _ h => List.mem_cons_of_mem _ (List.mem_append_left _ (List.mem_append_right _ h))) (by decide +kernel))) (goodIn_sub (fun _ h => List.mem_cons_of_mem _ (List.mem_append_right _ h)) (by decide +kernel))
set_option maxRecDepth 20000 in
theorem gL_areAll_X5_holds : GoodIn wsL_areAll (wsV RL 53 RX5 yX5_holds wsX5_holds) := goodIn_app (goodIn_of _ (by decide +kernel)) ggL_areAll_X5_holds
set_option maxRecDepth 20000 in
theorem ggL_areAll_X5_found : GoodIn wsL_areAll wsX5_found := goodIn_ca (goodIn_r _ [61, 8, 62, 63, 17, 18, 4, 19, 15, 16, 64, 65, 66, 26, 67, 68, 69, 70, 71, 72, 73, 74, 75, 76, 24, 25, 27, 28, 77, 78, 79, 80, 81, 82, 83, 84, 85, 86, 105, 106, 107, 108, 109, 110, 111, 112, 113, 114, 115, 116, 117, 118, 119, 120, 121, 122, 123, 124, 125, 126, 127, 128, 129, 130, 134, 135, 136, 137, 138, 139, 140, 141] (by decide +kernel) (by decide +kernel)) (goodIn_sub (fun _ h => List.mem_cons_of_mem _ (List.mem_append_right _ h)) (by decide +kernel))
set_option maxRecDepth 20000 in
theorem gL_areAll_X5_found : GoodIn wsL_areAll (wsV RL 66 RX5 yX5_found wsX5_found) := goodIn_app (goodIn_of _ (by decide +kernel)) ggL_areAll_X5_found
set_option maxRecDepth 20000 in
theorem ggL_areAll_L_found : GoodIn wsL_areAll wsL_found := goodIn_ca (goodIn_ca (goodIn_r _ [90, 91, 92, 93, 94, 89, 95, 1, 2, 3, 4, 5, 6, 7, 8, 9, 10, 11, 12, 13, 14, 15, 16, 17, 18, 19, 20, 21, 22, 23, 24, 25, 26, 27, 28, 96, 97, 98, 105, 106, 107, 108, 109, 110, 111, 112, 113, 114, 115, 116, 117, 118, 119, 120, 121, 122, 123, 124, 125, 126, 127, 128, 129, 130] (by decide +kernel) (by decide +kernel)) (goodIn_sub (fun _ h => List.mem_cons_of_mem _ (List.mem_append_left _ (List.mem_append_right _ h))) (by decide +kernel))) (goodIn_sub (fun _ h => List.mem_cons_of_mem _ (List.mem_append_right _ h)) (by decide +kernel))
set_option maxRecDepth 20000 in
theorem gL_areAll_L_found : GoodIn wsL_areAll (va_wsS RL 95 yL_found wsL_found) := goodIn_app (goodIn_of _ (by decide +kernel)) ggL_areAll_L_found
set_option maxRecDepth 20000 in
theorem ggL_areAll_X5_got : GoodIn wsL_areAll wsX5_got := goodIn_ca (goodIn_r _ [102, 103, 104, 37, 38, 4, 39, 15, 16, 105, 106, 107, 108, 109, 110, 111, 112, 113, 114] (by decide +kernel) (by decide +kernel)) (goodIn_sub (fun _ h => List.mem_cons_of_mem _ (List.mem_append_right _ h)) (by decide +kernel))
set_option maxRecDepth 20000 in
theorem gL_areAll_X5_got : GoodIn wsL_areAll (wsV RL 62 RX5 yX5_got wsX5_got) := goodIn_app (goodIn_of _ (by decide +kernel)) ggL_areAll_X5_got
theorem dL_areAll_0 : decode cL_areAll 0 = .ok (.iconst 1, 1) := by decide +kernel
theorem dL_areAll_1 : decode cL_areAll 1 = .ok (.istore 6, 2) := by decide +kernel
theorem dL_areAll_3 : decode cL_areAll 3 = .ok (.iconst 0, 1) := by decide +kernel
theorem dL_areAll_4 : decode cL_areAll 4 = .ok (.istore 7, 2) := by decide +kernel
theorem dL_areAll_6 : decode cL_areAll 6 = .ok (.iconst 0, 1) := by decide +kernel
theorem dL_areAll_7 : decode cL_areAll 7 = .ok (.istore 8, 2) := by decide +kernel
theorem dL_areAll_9 : decode cL_areAll 9 = .ok (.iload 8, 2) := by decide +kernel
theorem dL_areAll_11 : decode cL_areAll 11 = .ok (.bipush 30, 2) := by decide +kernel
theorem dL_areAll_13 : decode cL_areAll 13 = .ok (.if_icmp .ge 226, 3) := by decide +kernel
theorem dL_areAll_16 : decode cL_areAll 16 = .ok (.iload 6, 2) := by decide +kernel
theorem dL_areAll_18 : decode cL_areAll 18 = .ok (.ifCond .eq 221, 3) := by decide +kernel
theorem dL_areAll_21 : decode cL_areAll 21 = .ok (.iload 8, 2) := by decide +kernel
theorem dL_areAll_23 : decode cL_areAll 23 = .ok (.iconst 5, 1) := by decide +kernel
theorem dL_areAll_24 : decode cL_areAll 24 = .ok (.idiv, 1) := by decide +kernel
theorem dL_areAll_25 : decode cL_areAll 25 = .ok (.istore 9, 2) := by decide +kernel
theorem dL_areAll_27 : decode cL_areAll 27 = .ok (.aload_n 0, 1) := by decide +kernel
theorem dL_areAll_28 : decode cL_areAll 28 = .ok (.iload 9, 2) := by decide +kernel
theorem dL_areAll_30 : decode cL_areAll 30 = .ok (.iload 8, 2) := by decide +kernel
theorem dL_areAll_32 : decode cL_areAll 32 = .ok (.iconst 5, 1) := by decide +kernel
theorem dL_areAll_33 : decode cL_areAll 33 = .ok (.irem, 1) := by decide +kernel
theorem dL_areAll_34 : decode cL_areAll 34 = .ok (.iconst 0, 1) := by decide +kernel
theorem dL_areAll_35 : decode cL_areAll 35 = .ok (.invokevirtual 56, 3) := by decide +kernel
theorem dL_areAll_38 : decode cL_areAll 38 = .ok (.iconst 1, 1) := by decide +kernel
theorem dL_areAll_39 : decode cL_areAll 39 = .ok (.if_icmp .ne 7, 3) := by decide +kernel
theorem dL_areAll_42 : decode cL_areAll 42 = .ok (.iconst 1, 1) := by decide +kernel
theorem dL_areAll_43 : decode cL_areAll 43 = .ok (.goto 4, 3) := by decide +kernel
theorem dL_areAll_46 : decode cL_areAll 46 = .ok (.iconst 0, 1) := by decide +kernel
theorem dL_areAll_47 : decode cL_areAll 47 = .ok (.istore 10, 2) := by decide +kernel
theorem dL_areAll_49 : decode cL_areAll 49 = .ok (.aload_n 0, 1) := by decide +kernel
theorem dL_areAll_50 : decode cL_areAll 50 = .ok (.iload 9, 2) := by decide +kernel
theorem dL_areAll_52 : decode cL_areAll 52 = .ok (.iload 8, 2) := by decide +kernel
theorem dL_areAll_54 : decode cL_areAll 54 = .ok (.iconst 5, 1) := by decide +kernel
theorem dL_areAll_55 : decode cL_areAll 55 = .ok (.irem, 1) := by decide +kernel
theorem dL_areAll_56 : decode cL_areAll 56 = .ok (.iconst 2, 1) := by decide +kernel
theorem dL_areAll_57 : decode cL_areAll 57 = .ok (.invokevirtual 56, 3) := by decide +kernel
theorem dL_areAll_60 : decode cL_areAll 60 = .ok (.iconst 1, 1) := by decide +kernel
theorem dL_areAll_61 : decode cL_areAll 61 = .ok (.if_icmp .ne 7, 3) := by decide +kernel
theorem dL_areAll_64 : decode cL_areAll 64 = .ok (.iconst 1, 1) := by decide +kernel
theorem dL_areAll_65 : decode cL_areAll 65 = .ok (.goto 4, 3) := by decide +kernel
theorem dL_areAll_68 : decode cL_areAll 68 = .ok (.iconst 0, 1) := by decide +kernel
theorem dL_areAll_69 : decode cL_areAll 69 = .ok (.istore 11, 2) := by decide +kernel
theorem dL_areAll_71 : decode cL_areAll 71 = .ok (.aload_n 0, 1) := by decide +kernel
theorem dL_areAll_72 : decode cL_areAll 72 = .ok (.iload 9, 2) := by decide +kernel
theorem dL_areAll_74 : decode cL_areAll 74 = .ok (.iload 8, 2) := by decide +kernel
theorem dL_areAll_76 : decode cL_areAll 76 = .ok (.iconst 5, 1) := by decide +kernel
theorem dL_areAll_77 : decode cL_areAll 77 = .ok (.irem, 1) := by decide +kernel
theorem dL_areAll_78 : decode cL_areAll 78 = .ok (.iconst 1, 1) := by decide +kernel
theorem dL_areAll_79 : decode cL_areAll 79 = .ok (.invokevirtual 56, 3) := by decide +kernel
theorem dL_areAll_82 : decode cL_areAll 82 = .ok (.istore 12, 2) := by decide +kernel
theorem dL_areAll_84 : decode cL_areAll 84 = .ok (.aload_n 1, 1) := by decide +kernel
theorem dL_areAll_85 : decode cL_areAll 85 = .ok (.iload 8, 2) := by decide +kernel
theorem dL_areAll_87 : decode cL_areAll 87 = .ok (.iaload, 1) := by decide +kernel
theorem dL_areAll_88 : decode cL_areAll 88 = .ok (.ifCond .lt 16, 3) := by decide +kernel
theorem dL_areAll_91 : decode cL_areAll 91 = .ok (.aload_n 1, 1) := by decide +kernel
theorem dL_areAll_92 : decode cL_areAll 92 = .ok (.iload 8, 2) := by decide +kernel
theorem dL_areAll_94 : decode cL_areAll 94 = .ok (.iaload, 1) := by decide +kernel
theorem dL_areAll_95 : decode cL_areAll 95 = .ok (.bipush 100, 2) := by decide +kernel
theorem dL_areAll_97 : decode cL_areAll 97 = .ok (.if_icmp .ge 7, 3) := by decide +kernel
theorem dL_areAll_100 : decode cL_areAll 100 = .ok (.iconst 1, 1) := by decide +kernel
theorem dL_areAll_101 : decode cL_areAll 101 = .ok (.goto 4, 3) := by decide +kernel
theorem dL_areAll_104 : decode cL_areAll 104 = .ok (.iconst 0, 1) := by decide +kernel
theorem dL_areAll_105 : decode cL_areAll 105 = .ok (.istore 13, 2) := by decide +kernel
theorem dL_areAll_107 : decode cL_areAll 107 = .ok (.iload 10, 2) := by decide +kernel
theorem dL_areAll_109 : decode cL_areAll 109 = .ok (.ifCond .eq 8, 3) := by decide +kernel
theorem dL_areAll_112 : decode cL_areAll 112 = .ok (.iload 11, 2) := by decide +kernel
theorem dL_areAll_114 : decode cL_areAll 114 = .ok (.ifCond .ne 116, 3) := by decide +kernel
theorem dL_areAll_117 : decode cL_areAll 117 = .ok (.iload 13, 2) := by decide +kernel
theorem dL_areAll_119 : decode cL_areAll 119 = .ok (.ifCond .ne 8, 3) := by decide +kernel
theorem dL_areAll_122 : decode cL_areAll 122 = .ok (.iload 12, 2) := by decide +kernel
theorem dL_areAll_124 : decode cL_areAll 124 = .ok (.ifCond .ne 106, 3) := by decide +kernel
theorem dL_areAll_127 : decode cL_areAll 127 = .ok (.iload 11, 2) := by decide +kernel
theorem dL_areAll_129 : decode cL_areAll 129 = .ok (.ifCond .eq 8, 3) := by decide +kernel
theorem dL_areAll_132 : decode cL_areAll 132 = .ok (.iload 12, 2) := by decide +kernel
theorem dL_areAll_134 : decode cL_areAll 134 = .ok (.ifCond .ne 96, 3) := by decide +kernel
theorem dL_areAll_137 : decode cL_areAll 137 = .ok (.aload_n 1, 1) := by decide +kernel
theorem dL_areAll_138 : decode cL_areAll 138 = .ok (.iload 8, 2) := by decide +kernel
theorem dL_areAll_140 : decode cL_areAll 140 = .ok (.iaload, 1) := by decide +kernel
theorem dL_areAll_141 : decode cL_areAll 141 = .ok (.ifCond .ge 8, 3) := by decide +kernel
theorem dL_areAll_144 : decode cL_areAll 144 = .ok (.iload 10, 2) := by decide +kernel
theorem dL_areAll_146 : decode cL_areAll 146 = .ok (.ifCond .ne 84, 3) := by decide +kernel
theorem dL_areAll_149 : decode cL_areAll 149 = .ok (.aload_n 1, 1) := by decide +kernel
theorem dL_areAll_150 : decode cL_areAll 150 = .ok (.iload 8, 2) := by decide +kernel
theorem dL_areAll_152 : decode cL_areAll 152 = .ok (.iaload, 1) := by decide +kernel
theorem dL_areAll_153 : decode cL_areAll 153 = .ok (.bipush 100, 2) := by decide +kernel
theorem dL_areAll_155 : decode cL_areAll 155 = .ok (.if_icmp .lt 18, 3) := by decide +kernel
theorem dL_areAll_158 : decode cL_areAll 158 = .ok (.iload 10, 2) := by decide +kernel
theorem dL_areAll_160 : decode cL_areAll 160 = .ok (.iload 11, 2) := by decide +kernel
theorem dL_areAll_162 : decode cL_areAll 162 = .ok (.ifCond .ne 7, 3) := by decide +kernel
theorem dL_areAll_165 : decode cL_areAll 165 = .ok (.iconst 1, 1) := by decide +kernel
theorem dL_areAll_166 : decode cL_areAll 166 = .ok (.goto 4, 3) := by decide +kernel
theorem dL_areAll_169 : decode cL_areAll 169 = .ok (.iconst 0, 1) := by decide +kernel
theorem dL_areAll_170 : decode cL_areAll 170 = .ok (.if_icmp .ne 60, 3) := by decide +kernel
theorem dL_areAll_173 : decode cL_areAll 173 = .ok (.iload 13, 2) := by decide +kernel
theorem dL_areAll_175 : decode cL_areAll 175 = .ok (.ifCond .eq 20, 3) := by decide +kernel
theorem dL_areAll_178 : decode cL_areAll 178 = .ok (.iload 10, 2) := by decide +kernel
theorem dL_areAll_180 : decode cL_areAll 180 = .ok (.ifCond .eq 15, 3) := by decide +kernel
theorem dL_areAll_183 : decode cL_areAll 183 = .ok (.iload 12, 2) := by decide +kernel
end
section
theorem dL_areAll_185 : decode cL_areAll 185 = .ok (.iconst 1, 1) := by decide +kernel
theorem dL_areAll_186 : decode cL_areAll 186 = .ok (.if_icmp .eq 9, 3) := by decide +kernel
theorem dL_areAll_189 : decode cL_areAll 189 = .ok (.iload 12, 2) := by decide +kernel
theorem dL_areAll_191 : decode cL_areAll 191 = .ok (.iconst 2, 1) := by decide +kernel
theorem dL_areAll_192 : decode cL_areAll 192 = .ok (.if_icmp .ne 38, 3) := by decide +kernel
theorem dL_areAll_195 : decode cL_areAll 195 = .ok (.aload_n 0, 1) := by decide +kernel
theorem dL_areAll_196 : decode cL_areAll 196 = .ok (.iload 9, 2) := by decide +kernel
theorem dL_areAll_198 : decode cL_areAll 198 = .ok (.iload 8, 2) := by decide +kernel
theorem dL_areAll_200 : decode cL_areAll 200 = .ok (.iconst 5, 1) := by decide +kernel
theorem dL_areAll_201 : decode cL_areAll 201 = .ok (.irem, 1) := by decide +kernel
theorem dL_areAll_202 : decode cL_areAll 202 = .ok (.iconst 3, 1) := by decide +kernel
theorem dL_areAll_203 : decode cL_areAll 203 = .ok (.invokevirtual 56, 3) := by decide +kernel
theorem dL_areAll_206 : decode cL_areAll 206 = .ok (.ifCond .lt 24, 3) := by decide +kernel
theorem dL_areAll_209 : decode cL_areAll 209 = .ok (.aload_n 0, 1) := by decide +kernel
theorem dL_areAll_210 : decode cL_areAll 210 = .ok (.iload 9, 2) := by decide +kernel
theorem dL_areAll_212 : decode cL_areAll 212 = .ok (.iload 8, 2) := by decide +kernel
theorem dL_areAll_214 : decode cL_areAll 214 = .ok (.iconst 5, 1) := by decide +kernel
theorem dL_areAll_215 : decode cL_areAll 215 = .ok (.irem, 1) := by decide +kernel
theorem dL_areAll_216 : decode cL_areAll 216 = .ok (.iconst 3, 1) := by decide +kernel
theorem dL_areAll_217 : decode cL_areAll 217 = .ok (.invokevirtual 56, 3) := by decide +kernel
theorem dL_areAll_220 : decode cL_areAll 220 = .ok (.sipush 200, 3) := by decide +kernel
theorem dL_areAll_223 : decode cL_areAll 223 = .ok (.if_icmp .ge 7, 3) := by decide +kernel
theorem dL_areAll_226 : decode cL_areAll 226 = .ok (.iconst 1, 1) := by decide +kernel
theorem dL_areAll_227 : decode cL_areAll 227 = .ok (.goto 4, 3) := by decide +kernel
theorem dL_areAll_230 : decode cL_areAll 230 = .ok (.iconst 0, 1) := by decide +kernel
theorem dL_areAll_231 : decode cL_areAll 231 = .ok (.istore 6, 2) := by decide +kernel
theorem dL_areAll_233 : decode cL_areAll 233 = .ok (.iinc 8 1, 3) := by decide +kernel
theorem dL_areAll_236 : decode cL_areAll 236 = .ok (.goto (-227), 3) := by decide +kernel
theorem dL_areAll_239 : decode cL_areAll 239 = .ok (.iconst 0, 1) := by decide +kernel
theorem dL_areAll_240 : decode cL_areAll 240 = .ok (.istore 8, 2) := by decide +kernel
theorem dL_areAll_242 : decode cL_areAll 242 = .ok (.iload 8, 2) := by decide +kernel
theorem dL_areAll_244 : decode cL_areAll 244 = .ok (.bipush 6, 2) := by decide +kernel
theorem dL_areAll_246 : decode cL_areAll 246 = .ok (.if_icmp .ge 251, 3) := by decide +kernel
theorem dL_areAll_249 : decode cL_areAll 249 = .ok (.iload 6, 2) := by decide +kernel
theorem dL_areAll_251 : decode cL_areAll 251 = .ok (.ifCond .eq 246, 3) := by decide +kernel
theorem dL_areAll_254 : decode cL_areAll 254 = .ok (.iconst 0, 1) := by decide +kernel
theorem dL_areAll_255 : decode cL_areAll 255 = .ok (.istore 9, 2) := by decide +kernel
theorem dL_areAll_257 : decode cL_areAll 257 = .ok (.iconst 0, 1) := by decide +kernel
theorem dL_areAll_258 : decode cL_areAll 258 = .ok (.istore 10, 2) := by decide +kernel
theorem dL_areAll_260 : decode cL_areAll 260 = .ok (.iload 10, 2) := by decide +kernel
theorem dL_areAll_262 : decode cL_areAll 262 = .ok (.bipush 30, 2) := by decide +kernel
theorem dL_areAll_264 : decode cL_areAll 264 = .ok (.if_icmp .ge 85, 3) := by decide +kernel
theorem dL_areAll_267 : decode cL_areAll 267 = .ok (.iload 6, 2) := by decide +kernel
theorem dL_areAll_269 : decode cL_areAll 269 = .ok (.ifCond .eq 80, 3) := by decide +kernel
theorem dL_areAll_272 : decode cL_areAll 272 = .ok (.aload_n 0, 1) := by decide +kernel
theorem dL_areAll_273 : decode cL_areAll 273 = .ok (.iload 8, 2) := by decide +kernel
theorem dL_areAll_275 : decode cL_areAll 275 = .ok (.iconst 1, 1) := by decide +kernel
theorem dL_areAll_276 : decode cL_areAll 276 = .ok (.iload 10, 2) := by decide +kernel
theorem dL_areAll_278 : decode cL_areAll 278 = .ok (.bipush 10, 2) := by decide +kernel
theorem dL_areAll_280 : decode cL_areAll 280 = .ok (.idiv, 1) := by decide +kernel
theorem dL_areAll_281 : decode cL_areAll 281 = .ok (.iadd, 1) := by decide +kernel
theorem dL_areAll_282 : decode cL_areAll 282 = .ok (.iload 10, 2) := by decide +kernel
theorem dL_areAll_284 : decode cL_areAll 284 = .ok (.bipush 10, 2) := by decide +kernel
theorem dL_areAll_286 : decode cL_areAll 286 = .ok (.irem, 1) := by decide +kernel
theorem dL_areAll_287 : decode cL_areAll 287 = .ok (.invokevirtual 59, 3) := by decide +kernel
theorem dL_areAll_290 : decode cL_areAll 290 = .ok (.istore 11, 2) := by decide +kernel
theorem dL_areAll_292 : decode cL_areAll 292 = .ok (.iload 9, 2) := by decide +kernel
theorem dL_areAll_294 : decode cL_areAll 294 = .ok (.iload 11, 2) := by decide +kernel
theorem dL_areAll_296 : decode cL_areAll 296 = .ok (.ifCond .lt 7, 3) := by decide +kernel
theorem dL_areAll_299 : decode cL_areAll 299 = .ok (.iconst 1, 1) := by decide +kernel
theorem dL_areAll_300 : decode cL_areAll 300 = .ok (.goto 4, 3) := by decide +kernel
theorem dL_areAll_303 : decode cL_areAll 303 = .ok (.iconst 0, 1) := by decide +kernel
theorem dL_areAll_304 : decode cL_areAll 304 = .ok (.iadd, 1) := by decide +kernel
theorem dL_areAll_305 : decode cL_areAll 305 = .ok (.istore 9, 2) := by decide +kernel
theorem dL_areAll_307 : decode cL_areAll 307 = .ok (.iload 11, 2) := by decide +kernel
theorem dL_areAll_309 : decode cL_areAll 309 = .ok (.ifCond .lt 27, 3) := by decide +kernel
theorem dL_areAll_312 : decode cL_areAll 312 = .ok (.aload_n 1, 1) := by decide +kernel
theorem dL_areAll_313 : decode cL_areAll 313 = .ok (.iconst 5, 1) := by decide +kernel
theorem dL_areAll_314 : decode cL_areAll 314 = .ok (.iload 8, 2) := by decide +kernel
theorem dL_areAll_316 : decode cL_areAll 316 = .ok (.imul, 1) := by decide +kernel
theorem dL_areAll_317 : decode cL_areAll 317 = .ok (.iload 11, 2) := by decide +kernel
theorem dL_areAll_319 : decode cL_areAll 319 = .ok (.iadd, 1) := by decide +kernel
theorem dL_areAll_320 : decode cL_areAll 320 = .ok (.iaload, 1) := by decide +kernel
theorem dL_areAll_321 : decode cL_areAll 321 = .ok (.ifCond .lt 19, 3) := by decide +kernel
theorem dL_areAll_324 : decode cL_areAll 324 = .ok (.aload_n 0, 1) := by decide +kernel
theorem dL_areAll_325 : decode cL_areAll 325 = .ok (.iload 8, 2) := by decide +kernel
theorem dL_areAll_327 : decode cL_areAll 327 = .ok (.iload 11, 2) := by decide +kernel
theorem dL_areAll_329 : decode cL_areAll 329 = .ok (.iconst 2, 1) := by decide +kernel
theorem dL_areAll_330 : decode cL_areAll 330 = .ok (.invokevirtual 56, 3) := by decide +kernel
theorem dL_areAll_333 : decode cL_areAll 333 = .ok (.ifCond .ne 7, 3) := by decide +kernel
theorem dL_areAll_336 : decode cL_areAll 336 = .ok (.iconst 1, 1) := by decide +kernel
theorem dL_areAll_337 : decode cL_areAll 337 = .ok (.goto 4, 3) := by decide +kernel
theorem dL_areAll_340 : decode cL_areAll 340 = .ok (.iconst 0, 1) := by decide +kernel
theorem dL_areAll_341 : decode cL_areAll 341 = .ok (.istore 6, 2) := by decide +kernel
theorem dL_areAll_343 : decode cL_areAll 343 = .ok (.iinc 10 1, 3) := by decide +kernel
theorem dL_areAll_346 : decode cL_areAll 346 = .ok (.goto (-86), 3) := by decide +kernel
theorem dL_areAll_349 : decode cL_areAll 349 = .ok (.aload_n 0, 1) := by decide +kernel
theorem dL_areAll_350 : decode cL_areAll 350 = .ok (.iload 8, 2) := by decide +kernel
theorem dL_areAll_352 : decode cL_areAll 352 = .ok (.iconst 0, 1) := by decide +kernel
theorem dL_areAll_353 : decode cL_areAll 353 = .ok (.invokevirtual 53, 3) := by decide +kernel
theorem dL_areAll_356 : decode cL_areAll 356 = .ok (.istore 10, 2) := by decide +kernel
theorem dL_areAll_358 : decode cL_areAll 358 = .ok (.iload 6, 2) := by decide +kernel
theorem dL_areAll_360 : decode cL_areAll 360 = .ok (.ifCond .eq 97, 3) := by decide +kernel
theorem dL_areAll_363 : decode cL_areAll 363 = .ok (.iload 9, 2) := by decide +kernel
theorem dL_areAll_365 : decode cL_areAll 365 = .ok (.aload_n 0, 1) := by decide +kernel
theorem dL_areAll_366 : decode cL_areAll 366 = .ok (.iload 8, 2) := by decide +kernel
theorem dL_areAll_368 : decode cL_areAll 368 = .ok (.iconst 4, 1) := by decide +kernel
theorem dL_areAll_369 : decode cL_areAll 369 = .ok (.invokevirtual 53, 3) := by decide +kernel
theorem dL_areAll_372 : decode cL_areAll 372 = .ok (.if_icmp .ne 85, 3) := by decide +kernel
theorem dL_areAll_375 : decode cL_areAll 375 = .ok (.iload 9, 2) := by decide +kernel
theorem dL_areAll_377 : decode cL_areAll 377 = .ok (.bipush 9, 2) := by decide +kernel
theorem dL_areAll_379 : decode cL_areAll 379 = .ok (.if_icmp .ge 78, 3) := by decide +kernel
theorem dL_areAll_382 : decode cL_areAll 382 = .ok (.iload 10, 2) := by decide +kernel
theorem dL_areAll_384 : decode cL_areAll 384 = .ok (.ifCond .lt 73, 3) := by decide +kernel
theorem dL_areAll_387 : decode cL_areAll 387 = .ok (.iload 10, 2) := by decide +kernel
theorem dL_areAll_389 : decode cL_areAll 389 = .ok (.bipush 6, 2) := by decide +kernel
theorem dL_areAll_391 : decode cL_areAll 391 = .ok (.if_icmp .ge 66, 3) := by decide +kernel
theorem dL_areAll_394 : decode cL_areAll 394 = .ok (.aload_n 0, 1) := by decide +kernel
theorem dL_areAll_395 : decode cL_areAll 395 = .ok (.iload 8, 2) := by decide +kernel
theorem dL_areAll_397 : decode cL_areAll 397 = .ok (.iconst 2, 1) := by decide +kernel
theorem dL_areAll_398 : decode cL_areAll 398 = .ok (.invokevirtual 53, 3) := by decide +kernel
theorem dL_areAll_401 : decode cL_areAll 401 = .ok (.bipush 8, 2) := by decide +kernel
theorem dL_areAll_403 : decode cL_areAll 403 = .ok (.if_icmp .ge 54, 3) := by decide +kernel
theorem dL_areAll_406 : decode cL_areAll 406 = .ok (.aload_n 0, 1) := by decide +kernel
theorem dL_areAll_407 : decode cL_areAll 407 = .ok (.iload 8, 2) := by decide +kernel
theorem dL_areAll_409 : decode cL_areAll 409 = .ok (.iconst 1, 1) := by decide +kernel
theorem dL_areAll_410 : decode cL_areAll 410 = .ok (.invokevirtual 53, 3) := by decide +kernel
theorem dL_areAll_413 : decode cL_areAll 413 = .ok (.ifCond .lt 44, 3) := by decide +kernel
theorem dL_areAll_416 : decode cL_areAll 416 = .ok (.aload_n 0, 1) := by decide +kernel
theorem dL_areAll_417 : decode cL_areAll 417 = .ok (.iload 8, 2) := by decide +kernel
theorem dL_areAll_419 : decode cL_areAll 419 = .ok (.iconst 3, 1) := by decide +kernel
theorem dL_areAll_420 : decode cL_areAll 420 = .ok (.invokevirtual 53, 3) := by decide +kernel
theorem dL_areAll_423 : decode cL_areAll 423 = .ok (.ifCond .ge 30, 3) := by decide +kernel
theorem dL_areAll_426 : decode cL_areAll 426 = .ok (.iload 10, 2) := by decide +kernel
theorem dL_areAll_428 : decode cL_areAll 428 = .ok (.iload 8, 2) := by decide +kernel
theorem dL_areAll_430 : decode cL_areAll 430 = .ok (.if_icmp .ne 27, 3) := by decide +kernel
theorem dL_areAll_433 : decode cL_areAll 433 = .ok (.aload_n 0, 1) := by decide +kernel
theorem dL_areAll_434 : decode cL_areAll 434 = .ok (.iload 8, 2) := by decide +kernel
theorem dL_areAll_436 : decode cL_areAll 436 = .ok (.iconst 1, 1) := by decide +kernel
theorem dL_areAll_437 : decode cL_areAll 437 = .ok (.invokevirtual 53, 3) := by decide +kernel
theorem dL_areAll_440 : decode cL_areAll 440 = .ok (.ifCond .ne 17, 3) := by decide +kernel
theorem dL_areAll_443 : decode cL_areAll 443 = .ok (.aload_n 0, 1) := by decide +kernel
theorem dL_areAll_444 : decode cL_areAll 444 = .ok (.iload 8, 2) := by decide +kernel
theorem dL_areAll_446 : decode cL_areAll 446 = .ok (.iconst 2, 1) := by decide +kernel
theorem dL_areAll_447 : decode cL_areAll 447 = .ok (.invokevirtual 53, 3) := by decide +kernel
theorem dL_areAll_450 : decode cL_areAll 450 = .ok (.ifCond .ne 7, 3) := by decide +kernel
theorem dL_areAll_453 : decode cL_areAll 453 = .ok (.iconst 1, 1) := by decide +kernel
theorem dL_areAll_454 : decode cL_areAll 454 = .ok (.goto 4, 3) := by decide +kernel
theorem dL_areAll_457 : decode cL_areAll 457 = .ok (.iconst 0, 1) := by decide +kernel
theorem dL_areAll_458 : decode cL_areAll 458 = .ok (.istore 6, 2) := by decide +kernel
theorem dL_areAll_460 : decode cL_areAll 460 = .ok (.iload 6, 2) := by decide +kernel
theorem dL_areAll_462 : decode cL_areAll 462 = .ok (.ifCond .eq 26, 3) := by decide +kernel
theorem dL_areAll_465 : decode cL_areAll 465 = .ok (.aload_n 0, 1) := by decide +kernel
theorem dL_areAll_466 : decode cL_areAll 466 = .ok (.iload 8, 2) := by decide +kernel
theorem dL_areAll_468 : decode cL_areAll 468 = .ok (.invokevirtual 66, 3) := by decide +kernel
theorem dL_areAll_471 : decode cL_areAll 471 = .ok (.aload_n 0, 1) := by decide +kernel
theorem dL_areAll_472 : decode cL_areAll 472 = .ok (.aload_n 1, 1) := by decide +kernel
theorem dL_areAll_473 : decode cL_areAll 473 = .ok (.aload_n 2, 1) := by decide +kernel
theorem dL_areAll_474 : decode cL_areAll 474 = .ok (.aload 4, 2) := by decide +kernel
theorem dL_areAll_476 : decode cL_areAll 476 = .ok (.iload 8, 2) := by decide +kernel
theorem dL_areAll_478 : decode cL_areAll 478 = .ok (.invokestatic 95, 3) := by decide +kernel
theorem dL_areAll_481 : decode cL_areAll 481 = .ok (.if_icmp .ne 7, 3) := by decide +kernel
theorem dL_areAll_484 : decode cL_areAll 484 = .ok (.iconst 1, 1) := by decide +kernel
theorem dL_areAll_485 : decode cL_areAll 485 = .ok (.goto 4, 3) := by decide +kernel
theorem dL_areAll_488 : decode cL_areAll 488 = .ok (.iconst 0, 1) := by decide +kernel
theorem dL_areAll_489 : decode cL_areAll 489 = .ok (.istore 6, 2) := by decide +kernel
theorem dL_areAll_491 : decode cL_areAll 491 = .ok (.iinc 8 1, 3) := by decide +kernel
theorem dL_areAll_494 : decode cL_areAll 494 = .ok (.goto (-252), 3) := by decide +kernel
theorem dL_areAll_497 : decode cL_areAll 497 = .ok (.iconst 0, 1) := by decide +kernel
theorem dL_areAll_498 : decode cL_areAll 498 = .ok (.istore 8, 2) := by decide +kernel
theorem dL_areAll_500 : decode cL_areAll 500 = .ok (.iload 8, 2) := by decide +kernel
theorem dL_areAll_502 : decode cL_areAll 502 = .ok (.bipush 10, 2) := by decide +kernel
theorem dL_areAll_504 : decode cL_areAll 504 = .ok (.if_icmp .ge 21, 3) := by decide +kernel
theorem dL_areAll_507 : decode cL_areAll 507 = .ok (.iload 7, 2) := by decide +kernel
theorem dL_areAll_509 : decode cL_areAll 509 = .ok (.aload_n 0, 1) := by decide +kernel
theorem dL_areAll_510 : decode cL_areAll 510 = .ok (.iload 8, 2) := by decide +kernel
theorem dL_areAll_512 : decode cL_areAll 512 = .ok (.iconst 0, 1) := by decide +kernel
theorem dL_areAll_513 : decode cL_areAll 513 = .ok (.invokevirtual 62, 3) := by decide +kernel
theorem dL_areAll_516 : decode cL_areAll 516 = .ok (.iadd, 1) := by decide +kernel
theorem dL_areAll_517 : decode cL_areAll 517 = .ok (.istore 7, 2) := by decide +kernel
theorem dL_areAll_519 : decode cL_areAll 519 = .ok (.iinc 8 1, 3) := by decide +kernel
theorem dL_areAll_522 : decode cL_areAll 522 = .ok (.goto (-22), 3) := by decide +kernel
theorem dL_areAll_525 : decode cL_areAll 525 = .ok (.iload 6, 2) := by decide +kernel
theorem dL_areAll_527 : decode cL_areAll 527 = .ok (.ifCond .eq 16, 3) := by decide +kernel
theorem dL_areAll_530 : decode cL_areAll 530 = .ok (.iload 7, 2) := by decide +kernel
theorem dL_areAll_532 : decode cL_areAll 532 = .ok (.aload 5, 2) := by decide +kernel
theorem dL_areAll_534 : decode cL_areAll 534 = .ok (.iconst 4, 1) := by decide +kernel
theorem dL_areAll_535 : decode cL_areAll 535 = .ok (.iaload, 1) := by decide +kernel
theorem dL_areAll_536 : decode cL_areAll 536 = .ok (.if_icmp .ne 7, 3) := by decide +kernel
theorem dL_areAll_539 : decode cL_areAll 539 = .ok (.iconst 1, 1) := by decide +kernel
theorem dL_areAll_540 : decode cL_areAll 540 = .ok (.goto 4, 3) := by decide +kernel
theorem dL_areAll_543 : decode cL_areAll 543 = .ok (.iconst 0, 1) := by decide +kernel
theorem dL_areAll_544 : decode cL_areAll 544 = .ok (.ireturn, 1) := by decide +kernel
set_option maxRecDepth 20000 in
theorem ggL_isPort_L_does : GoodIn wsL_isPort wsL_does := goodIn_ca (goodIn_ca (goodIn_ca (goodIn_r _ [4, 5, 6, 7, 8, 9, 10, 11, 12, 13, 14, 15, 16, 17, 18, 19, 20, 21, 22, 23, 24, 25, 26, 27, 28, 29, 30, 31, 32, 33, 34, 35, 36, 37, 38, 39, 40, 41, 42, 43, 44, 45, 46, 47, 48, 49, 50, 51, 52, 53, 54, 55, 56, 57, 58, 59, 60, 61, 62, 63, 64, 65, 66, 67, 68, 69, 70, 71, 72, 73, 74, 75, 76, 77, 78, 79, 80, 81, 82, 83, 84, 85, 86, 87, 88, 89, 90, 91, 92, 93, 94, 95, 96, 97, 98, 99, 100, 101, 102, 103, 104, 105, 106, 107, 108, 109, 110, 111, 112, 113, 114, 115, 116, 117, 118, 119, 120, 121, 122, 123, 124, 125, 126, 127, 128, 129, 130, 131, 132, 133, 134, 135, 136, 137, 138, 139, 140, 3, 141, 142, 143, 144, 145, 146, 147, 148, 149, 150, 151, 152, 153, 154, 155, 156, 157, 158, 159, 160, 161, 162, 163, 164, 165, 166, 167, 168, 169, 170, 171, 172, 173, 174, 175, 176, 177, 178, 179, 180, 181, 182, 183, 184, 185, 186, 187, 188, 189, 190, 191, 192, 193, 194, 195, 196, 197, 198, 199, 200, 201, 202, 203, 204, 205, 206, 207, 208, 209, 210, 211, 212, 213, 214, 215, 216, 217, 218, 219, 220, 221, 222, 223, 224, 225, 226, 227, 228, 229, 230, 231, 232, 233, 234, 235, 236, 237, 238, 239, 240, 241, 242, 243, 244, 245, 246, 247, 248, 249, 250, 251, 252, 253, 254, 255, 256, 257, 258, 259, 260, 261, 262, 263, 264, 265, 266, 267, 268, 269, 270, 271, 272, 273, 274, 275, 276, 277, 278, 279, 280, 281, 282, 283, 284, 285, 286, 287, 288, 289, 290, 291, 292, 293, 294, 295, 296, 297, 298, 299, 300, 301, 302, 303, 304, 305, 306, 307, 308, 309, 310, 311, 312, 313, 314, 315, 316, 317, 318, 319, 320, 321, 322, 323, 324, 325, 326, 327, 328, 329, 330, 331, 332, 333, 334, 335, 336, 337, 338, 339, 340, 341, 342, 343, 344, 345, 346, 347, 348, 349, 350, 351, 352, 353, 354, 355, 356, 357, 358, 359, 360, 361, 362, 363, 364, 365, 366, 367, 368, 369, 370, 371, 372, 373, 374, 375, 376, 377, 378, 379, 380, 381, 382, 383, 384, 385, 386, 387, 388, 389, 390, 391, 392, 393, 394, 395, 396, 397, 398, 399, 400, 401, 402, 403, 404, 405, 406, 407, 408, 409, 410, 411, 412, 413, 414, 415, 416, 417, 418, 419, 420, 421, 422, 423, 424, 425, 426] (by decide +kernel) (by decide +kernel)) (goodIn_sub (fun _ h => List.mem_cons_of_mem _ (List.mem_append_left _ (List.mem_append_left _ (List.mem_append_right _ h)))) (by decide +kernel))) (goodIn_sub (fun _ h => List.mem_cons_of_mem _ (List.mem_append_left _ (List.mem_append_right _ h))) (by decide +kernel))) (goodIn_sub (fun _ h => List.mem_cons_of_mem _ (List.mem_append_right _ h)) (by decide +kernel))
set_option maxRecDepth 20000 in
theorem gL_isPort_L_does : GoodIn wsL_isPort (va_wsS RL 98 yL_does wsL_does) := goodIn_app (goodIn_of _ (by decide +kernel)) ggL_isPort_L_does
set_option maxRecDepth 20000 in
theorem ggL_isPort_X5_port : GoodIn wsL_isPort wsX5_port := goodIn_ca (goodIn_ca (goodIn_r _ [350, 13, 14, 55, 291, 351, 181, 19, 20, 11, 21, 22, 23, 24, 25, 26, 30, 31, 32, 119, 106, 107, 60, 108, 109, 383, 384, 385, 386, 387, 388, 389, 390, 391, 392, 401, 402, 403, 404, 405, 406, 407, 408, 409, 410, 411, 412, 413, 414, 415, 416] (by decide +kernel) (by decide +kernel)) (goodIn_sub (fun _ h => List.mem_cons_of_mem _ (List.mem_append_left _ (List.mem_append_left _ (List.mem_append_right _ h)))) (by decide +kernel))) (goodIn_sub (fun _ h => List.mem_cons_of_mem _ (List.mem_append_right _ h)) (by decide +kernel))
set_option maxRecDepth 20000 in
theorem gL_isPort_X5_port : GoodIn wsL_isPort (wsV RL 56 RX5 yX5_port wsX5_port) := goodIn_app (goodIn_of _ (by decide +kernel)) ggL_isPort_X5_port
theorem dL_isPort_0 : decode cL_isPort 0 = .ok (.iload 7, 2) := by decide +kernel
theorem dL_isPort_2 : decode cL_isPort 2 = .ok (.bipush 30, 2) := by decide +kernel
theorem dL_isPort_4 : decode cL_isPort 4 = .ok (.irem, 1) := by decide +kernel
theorem dL_isPort_5 : decode cL_isPort 5 = .ok (.istore 9, 2) := by decide +kernel
theorem dL_isPort_7 : decode cL_isPort 7 = .ok (.iload 7, 2) := by decide +kernel
theorem dL_isPort_9 : decode cL_isPort 9 = .ok (.bipush 30, 2) := by decide +kernel
theorem dL_isPort_11 : decode cL_isPort 11 = .ok (.idiv, 1) := by decide +kernel
theorem dL_isPort_12 : decode cL_isPort 12 = .ok (.bipush 30, 2) := by decide +kernel
theorem dL_isPort_14 : decode cL_isPort 14 = .ok (.irem, 1) := by decide +kernel
theorem dL_isPort_15 : decode cL_isPort 15 = .ok (.istore 10, 2) := by decide +kernel
theorem dL_isPort_17 : decode cL_isPort 17 = .ok (.iload 6, 2) := by decide +kernel
theorem dL_isPort_19 : decode cL_isPort 19 = .ok (.ifCond .ne 151, 3) := by decide +kernel
theorem dL_isPort_22 : decode cL_isPort 22 = .ok (.iconst 1, 1) := by decide +kernel
theorem dL_isPort_23 : decode cL_isPort 23 = .ok (.iload 8, 2) := by decide +kernel
theorem dL_isPort_25 : decode cL_isPort 25 = .ok (.bipush 20, 2) := by decide +kernel
theorem dL_isPort_27 : decode cL_isPort 27 = .ok (.irem, 1) := by decide +kernel
theorem dL_isPort_28 : decode cL_isPort 28 = .ok (.iadd, 1) := by decide +kernel
theorem dL_isPort_29 : decode cL_isPort 29 = .ok (.istore 11, 2) := by decide +kernel
theorem dL_isPort_31 : decode cL_isPort 31 = .ok (.iload 9, 2) := by decide +kernel
theorem dL_isPort_33 : decode cL_isPort 33 = .ok (.iconst 5, 1) := by decide +kernel
theorem dL_isPort_34 : decode cL_isPort 34 = .ok (.idiv, 1) := by decide +kernel
theorem dL_isPort_35 : decode cL_isPort 35 = .ok (.iload 10, 2) := by decide +kernel
theorem dL_isPort_37 : decode cL_isPort 37 = .ok (.iconst 5, 1) := by decide +kernel
theorem dL_isPort_38 : decode cL_isPort 38 = .ok (.idiv, 1) := by decide +kernel
theorem dL_isPort_39 : decode cL_isPort 39 = .ok (.if_icmp .eq 7, 3) := by decide +kernel
theorem dL_isPort_42 : decode cL_isPort 42 = .ok (.iconst 1, 1) := by decide +kernel
theorem dL_isPort_43 : decode cL_isPort 43 = .ok (.goto 4, 3) := by decide +kernel
theorem dL_isPort_46 : decode cL_isPort 46 = .ok (.iconst 0, 1) := by decide +kernel
theorem dL_isPort_47 : decode cL_isPort 47 = .ok (.istore 12, 2) := by decide +kernel
theorem dL_isPort_49 : decode cL_isPort 49 = .ok (.iload 12, 2) := by decide +kernel
theorem dL_isPort_51 : decode cL_isPort 51 = .ok (.ifCond .eq 21, 3) := by decide +kernel
theorem dL_isPort_54 : decode cL_isPort 54 = .ok (.aload_n 1, 1) := by decide +kernel
theorem dL_isPort_55 : decode cL_isPort 55 = .ok (.iload 9, 2) := by decide +kernel
theorem dL_isPort_57 : decode cL_isPort 57 = .ok (.iaload, 1) := by decide +kernel
theorem dL_isPort_58 : decode cL_isPort 58 = .ok (.ifCond .ge 14, 3) := by decide +kernel
theorem dL_isPort_61 : decode cL_isPort 61 = .ok (.aload_n 1, 1) := by decide +kernel
theorem dL_isPort_62 : decode cL_isPort 62 = .ok (.iload 10, 2) := by decide +kernel
theorem dL_isPort_64 : decode cL_isPort 64 = .ok (.iaload, 1) := by decide +kernel
theorem dL_isPort_65 : decode cL_isPort 65 = .ok (.ifCond .ge 7, 3) := by decide +kernel
theorem dL_isPort_68 : decode cL_isPort 68 = .ok (.iconst 1, 1) := by decide +kernel
theorem dL_isPort_69 : decode cL_isPort 69 = .ok (.goto 4, 3) := by decide +kernel
theorem dL_isPort_72 : decode cL_isPort 72 = .ok (.iconst 0, 1) := by decide +kernel
theorem dL_isPort_73 : decode cL_isPort 73 = .ok (.istore 13, 2) := by decide +kernel
theorem dL_isPort_75 : decode cL_isPort 75 = .ok (.iload 13, 2) := by decide +kernel
theorem dL_isPort_77 : decode cL_isPort 77 = .ok (.ifCond .eq 35, 3) := by decide +kernel
theorem dL_isPort_80 : decode cL_isPort 80 = .ok (.aload_n 1, 1) := by decide +kernel
theorem dL_isPort_81 : decode cL_isPort 81 = .ok (.iload 9, 2) := by decide +kernel
theorem dL_isPort_83 : decode cL_isPort 83 = .ok (.iload 10, 2) := by decide +kernel
theorem dL_isPort_85 : decode cL_isPort 85 = .ok (.iastore, 1) := by decide +kernel
theorem dL_isPort_86 : decode cL_isPort 86 = .ok (.aload_n 1, 1) := by decide +kernel
theorem dL_isPort_87 : decode cL_isPort 87 = .ok (.iload 10, 2) := by decide +kernel
theorem dL_isPort_89 : decode cL_isPort 89 = .ok (.iload 9, 2) := by decide +kernel
theorem dL_isPort_91 : decode cL_isPort 91 = .ok (.iastore, 1) := by decide +kernel
theorem dL_isPort_92 : decode cL_isPort 92 = .ok (.aload_n 2, 1) := by decide +kernel
theorem dL_isPort_93 : decode cL_isPort 93 = .ok (.iload 9, 2) := by decide +kernel
theorem dL_isPort_95 : decode cL_isPort 95 = .ok (.iload 11, 2) := by decide +kernel
theorem dL_isPort_97 : decode cL_isPort 97 = .ok (.iastore, 1) := by decide +kernel
theorem dL_isPort_98 : decode cL_isPort 98 = .ok (.aload_n 2, 1) := by decide +kernel
theorem dL_isPort_99 : decode cL_isPort 99 = .ok (.iload 10, 2) := by decide +kernel
theorem dL_isPort_101 : decode cL_isPort 101 = .ok (.iload 11, 2) := by decide +kernel
theorem dL_isPort_103 : decode cL_isPort 103 = .ok (.iastore, 1) := by decide +kernel
theorem dL_isPort_104 : decode cL_isPort 104 = .ok (.aload 5, 2) := by decide +kernel
theorem dL_isPort_106 : decode cL_isPort 106 = .ok (.iconst 0, 1) := by decide +kernel
theorem dL_isPort_107 : decode cL_isPort 107 = .ok (.dup2, 1) := by decide +kernel
theorem dL_isPort_108 : decode cL_isPort 108 = .ok (.iaload, 1) := by decide +kernel
theorem dL_isPort_109 : decode cL_isPort 109 = .ok (.iconst 1, 1) := by decide +kernel
theorem dL_isPort_110 : decode cL_isPort 110 = .ok (.iadd, 1) := by decide +kernel
theorem dL_isPort_111 : decode cL_isPort 111 = .ok (.iastore, 1) := by decide +kernel
theorem dL_isPort_112 : decode cL_isPort 112 = .ok (.aload_n 0, 1) := by decide +kernel
theorem dL_isPort_113 : decode cL_isPort 113 = .ok (.iconst 0, 1) := by decide +kernel
theorem dL_isPort_114 : decode cL_isPort 114 = .ok (.iload 9, 2) := by decide +kernel
theorem dL_isPort_116 : decode cL_isPort 116 = .ok (.iconst 5, 1) := by decide +kernel
theorem dL_isPort_117 : decode cL_isPort 117 = .ok (.idiv, 1) := by decide +kernel
theorem dL_isPort_118 : decode cL_isPort 118 = .ok (.iload 9, 2) := by decide +kernel
theorem dL_isPort_120 : decode cL_isPort 120 = .ok (.iconst 5, 1) := by decide +kernel
theorem dL_isPort_121 : decode cL_isPort 121 = .ok (.irem, 1) := by decide +kernel
theorem dL_isPort_122 : decode cL_isPort 122 = .ok (.iload 10, 2) := by decide +kernel
theorem dL_isPort_124 : decode cL_isPort 124 = .ok (.iconst 5, 1) := by decide +kernel
theorem dL_isPort_125 : decode cL_isPort 125 = .ok (.idiv, 1) := by decide +kernel
theorem dL_isPort_126 : decode cL_isPort 126 = .ok (.iload 10, 2) := by decide +kernel
theorem dL_isPort_128 : decode cL_isPort 128 = .ok (.iconst 5, 1) := by decide +kernel
theorem dL_isPort_129 : decode cL_isPort 129 = .ok (.irem, 1) := by decide +kernel
theorem dL_isPort_130 : decode cL_isPort 130 = .ok (.iload 11, 2) := by decide +kernel
theorem dL_isPort_132 : decode cL_isPort 132 = .ok (.invokestatic 98, 3) := by decide +kernel
theorem dL_isPort_135 : decode cL_isPort 135 = .ok (.iload 12, 2) := by decide +kernel
theorem dL_isPort_137 : decode cL_isPort 137 = .ok (.ifCond .ne 9, 3) := by decide +kernel
theorem dL_isPort_140 : decode cL_isPort 140 = .ok (.sipush (-2000), 3) := by decide +kernel
theorem dL_isPort_143 : decode cL_isPort 143 = .ok (.goto 18, 3) := by decide +kernel
theorem dL_isPort_146 : decode cL_isPort 146 = .ok (.iload 13, 2) := by decide +kernel
theorem dL_isPort_148 : decode cL_isPort 148 = .ok (.ifCond .eq 10, 3) := by decide +kernel
theorem dL_isPort_151 : decode cL_isPort 151 = .ok (.aload 5, 2) := by decide +kernel
theorem dL_isPort_153 : decode cL_isPort 153 = .ok (.iconst 0, 1) := by decide +kernel
theorem dL_isPort_154 : decode cL_isPort 154 = .ok (.iaload, 1) := by decide +kernel
theorem dL_isPort_155 : decode cL_isPort 155 = .ok (.goto 6, 3) := by decide +kernel
theorem dL_isPort_158 : decode cL_isPort 158 = .ok (.sipush (-1000), 3) := by decide +kernel
theorem dL_isPort_161 : decode cL_isPort 161 = .ok (.if_icmp .ne 7, 3) := by decide +kernel
theorem dL_isPort_164 : decode cL_isPort 164 = .ok (.iconst 1, 1) := by decide +kernel
theorem dL_isPort_165 : decode cL_isPort 165 = .ok (.goto 4, 3) := by decide +kernel
theorem dL_isPort_168 : decode cL_isPort 168 = .ok (.iconst 0, 1) := by decide +kernel
theorem dL_isPort_169 : decode cL_isPort 169 = .ok (.ireturn, 1) := by decide +kernel
theorem dL_isPort_170 : decode cL_isPort 170 = .ok (.iload 6, 2) := by decide +kernel
theorem dL_isPort_172 : decode cL_isPort 172 = .ok (.iconst 1, 1) := by decide +kernel
theorem dL_isPort_173 : decode cL_isPort 173 = .ok (.if_icmp .ne 100, 3) := by decide +kernel
theorem dL_isPort_176 : decode cL_isPort 176 = .ok (.iload 8, 2) := by decide +kernel
theorem dL_isPort_178 : decode cL_isPort 178 = .ok (.bipush 10, 2) := by decide +kernel
theorem dL_isPort_180 : decode cL_isPort 180 = .ok (.irem, 1) := by decide +kernel
theorem dL_isPort_181 : decode cL_isPort 181 = .ok (.istore 11, 2) := by decide +kernel
theorem dL_isPort_183 : decode cL_isPort 183 = .ok (.aload_n 1, 1) := by decide +kernel
theorem dL_isPort_184 : decode cL_isPort 184 = .ok (.iload 9, 2) := by decide +kernel
theorem dL_isPort_186 : decode cL_isPort 186 = .ok (.iaload, 1) := by decide +kernel
theorem dL_isPort_187 : decode cL_isPort 187 = .ok (.ifCond .ge 14, 3) := by decide +kernel
theorem dL_isPort_190 : decode cL_isPort 190 = .ok (.aload_n 3, 1) := by decide +kernel
theorem dL_isPort_191 : decode cL_isPort 191 = .ok (.iload 11, 2) := by decide +kernel
theorem dL_isPort_193 : decode cL_isPort 193 = .ok (.iaload, 1) := by decide +kernel
theorem dL_isPort_194 : decode cL_isPort 194 = .ok (.ifCond .ge 7, 3) := by decide +kernel
theorem dL_isPort_197 : decode cL_isPort 197 = .ok (.iconst 1, 1) := by decide +kernel
theorem dL_isPort_198 : decode cL_isPort 198 = .ok (.goto 4, 3) := by decide +kernel
theorem dL_isPort_201 : decode cL_isPort 201 = .ok (.iconst 0, 1) := by decide +kernel
theorem dL_isPort_202 : decode cL_isPort 202 = .ok (.istore 12, 2) := by decide +kernel
theorem dL_isPort_204 : decode cL_isPort 204 = .ok (.iload 12, 2) := by decide +kernel
theorem dL_isPort_206 : decode cL_isPort 206 = .ok (.ifCond .eq 26, 3) := by decide +kernel
theorem dL_isPort_209 : decode cL_isPort 209 = .ok (.aload_n 1, 1) := by decide +kernel
theorem dL_isPort_210 : decode cL_isPort 210 = .ok (.iload 9, 2) := by decide +kernel
theorem dL_isPort_212 : decode cL_isPort 212 = .ok (.bipush 100, 2) := by decide +kernel
theorem dL_isPort_214 : decode cL_isPort 214 = .ok (.iload 11, 2) := by decide +kernel
theorem dL_isPort_216 : decode cL_isPort 216 = .ok (.iadd, 1) := by decide +kernel
theorem dL_isPort_217 : decode cL_isPort 217 = .ok (.iastore, 1) := by decide +kernel
theorem dL_isPort_218 : decode cL_isPort 218 = .ok (.aload_n 3, 1) := by decide +kernel
theorem dL_isPort_219 : decode cL_isPort 219 = .ok (.iload 11, 2) := by decide +kernel
theorem dL_isPort_221 : decode cL_isPort 221 = .ok (.iload 9, 2) := by decide +kernel
theorem dL_isPort_223 : decode cL_isPort 223 = .ok (.iastore, 1) := by decide +kernel
theorem dL_isPort_224 : decode cL_isPort 224 = .ok (.aload 5, 2) := by decide +kernel
theorem dL_isPort_226 : decode cL_isPort 226 = .ok (.iconst 1, 1) := by decide +kernel
theorem dL_isPort_227 : decode cL_isPort 227 = .ok (.dup2, 1) := by decide +kernel
theorem dL_isPort_228 : decode cL_isPort 228 = .ok (.iaload, 1) := by decide +kernel
theorem dL_isPort_229 : decode cL_isPort 229 = .ok (.iconst 1, 1) := by decide +kernel
theorem dL_isPort_230 : decode cL_isPort 230 = .ok (.iadd, 1) := by decide +kernel
theorem dL_isPort_231 : decode cL_isPort 231 = .ok (.iastore, 1) := by decide +kernel
theorem dL_isPort_232 : decode cL_isPort 232 = .ok (.aload_n 0, 1) := by decide +kernel
theorem dL_isPort_233 : decode cL_isPort 233 = .ok (.iconst 2, 1) := by decide +kernel
theorem dL_isPort_234 : decode cL_isPort 234 = .ok (.iload 9, 2) := by decide +kernel
theorem dL_isPort_236 : decode cL_isPort 236 = .ok (.iconst 5, 1) := by decide +kernel
theorem dL_isPort_237 : decode cL_isPort 237 = .ok (.idiv, 1) := by decide +kernel
theorem dL_isPort_238 : decode cL_isPort 238 = .ok (.iload 9, 2) := by decide +kernel
theorem dL_isPort_240 : decode cL_isPort 240 = .ok (.iconst 5, 1) := by decide +kernel
theorem dL_isPort_241 : decode cL_isPort 241 = .ok (.irem, 1) := by decide +kernel
theorem dL_isPort_242 : decode cL_isPort 242 = .ok (.iload 11, 2) := by decide +kernel
theorem dL_isPort_244 : decode cL_isPort 244 = .ok (.iconst 0, 1) := by decide +kernel
theorem dL_isPort_245 : decode cL_isPort 245 = .ok (.iconst 0, 1) := by decide +kernel
theorem dL_isPort_246 : decode cL_isPort 246 = .ok (.invokestatic 98, 3) := by decide +kernel
theorem dL_isPort_249 : decode cL_isPort 249 = .ok (.iload 12, 2) := by decide +kernel
theorem dL_isPort_251 : decode cL_isPort 251 = .ok (.ifCond .eq 10, 3) := by decide +kernel
theorem dL_isPort_254 : decode cL_isPort 254 = .ok (.aload 5, 2) := by decide +kernel
theorem dL_isPort_256 : decode cL_isPort 256 = .ok (.iconst 1, 1) := by decide +kernel
theorem dL_isPort_257 : decode cL_isPort 257 = .ok (.iaload, 1) := by decide +kernel
theorem dL_isPort_258 : decode cL_isPort 258 = .ok (.goto 6, 3) := by decide +kernel
theorem dL_isPort_261 : decode cL_isPort 261 = .ok (.sipush (-1000), 3) := by decide +kernel
theorem dL_isPort_264 : decode cL_isPort 264 = .ok (.if_icmp .ne 7, 3) := by decide +kernel
theorem dL_isPort_267 : decode cL_isPort 267 = .ok (.iconst 1, 1) := by decide +kernel
theorem dL_isPort_268 : decode cL_isPort 268 = .ok (.goto 4, 3) := by decide +kernel
theorem dL_isPort_271 : decode cL_isPort 271 = .ok (.iconst 0, 1) := by decide +kernel
theorem dL_isPort_272 : decode cL_isPort 272 = .ok (.ireturn, 1) := by decide +kernel
theorem dL_isPort_273 : decode cL_isPort 273 = .ok (.iload 6, 2) := by decide +kernel
theorem dL_isPort_275 : decode cL_isPort 275 = .ok (.iconst 2, 1) := by decide +kernel
theorem dL_isPort_276 : decode cL_isPort 276 = .ok (.if_icmp .ne 114, 3) := by decide +kernel
theorem dL_isPort_279 : decode cL_isPort 279 = .ok (.aload_n 1, 1) := by decide +kernel
theorem dL_isPort_280 : decode cL_isPort 280 = .ok (.iload 9, 2) := by decide +kernel
theorem dL_isPort_282 : decode cL_isPort 282 = .ok (.iaload, 1) := by decide +kernel
theorem dL_isPort_283 : decode cL_isPort 283 = .ok (.istore 11, 2) := by decide +kernel
theorem dL_isPort_285 : decode cL_isPort 285 = .ok (.iload 11, 2) := by decide +kernel
theorem dL_isPort_287 : decode cL_isPort 287 = .ok (.ifCond .ge 9, 3) := by decide +kernel
theorem dL_isPort_290 : decode cL_isPort 290 = .ok (.sipush (-1000), 3) := by decide +kernel
theorem dL_isPort_293 : decode cL_isPort 293 = .ok (.goto 19, 3) := by decide +kernel
theorem dL_isPort_296 : decode cL_isPort 296 = .ok (.iload 11, 2) := by decide +kernel
theorem dL_isPort_298 : decode cL_isPort 298 = .ok (.bipush 100, 2) := by decide +kernel
theorem dL_isPort_300 : decode cL_isPort 300 = .ok (.if_icmp .ge 7, 3) := by decide +kernel
theorem dL_isPort_303 : decode cL_isPort 303 = .ok (.iconst (-1), 1) := by decide +kernel
theorem dL_isPort_304 : decode cL_isPort 304 = .ok (.goto 8, 3) := by decide +kernel
theorem dL_isPort_307 : decode cL_isPort 307 = .ok (.iload 11, 2) := by decide +kernel
theorem dL_isPort_309 : decode cL_isPort 309 = .ok (.bipush 100, 2) := by decide +kernel
theorem dL_isPort_311 : decode cL_isPort 311 = .ok (.isub, 1) := by decide +kernel
theorem dL_isPort_312 : decode cL_isPort 312 = .ok (.istore 12, 2) := by decide +kernel
theorem dL_isPort_314 : decode cL_isPort 314 = .ok (.iload 11, 2) := by decide +kernel
theorem dL_isPort_316 : decode cL_isPort 316 = .ok (.bipush 100, 2) := by decide +kernel
theorem dL_isPort_318 : decode cL_isPort 318 = .ok (.if_icmp .lt 22, 3) := by decide +kernel
theorem dL_isPort_321 : decode cL_isPort 321 = .ok (.aload_n 3, 1) := by decide +kernel
theorem dL_isPort_322 : decode cL_isPort 322 = .ok (.iload 11, 2) := by decide +kernel
theorem dL_isPort_324 : decode cL_isPort 324 = .ok (.bipush 100, 2) := by decide +kernel
theorem dL_isPort_326 : decode cL_isPort 326 = .ok (.isub, 1) := by decide +kernel
theorem dL_isPort_327 : decode cL_isPort 327 = .ok (.iconst (-1), 1) := by decide +kernel
theorem dL_isPort_328 : decode cL_isPort 328 = .ok (.iastore, 1) := by decide +kernel
theorem dL_isPort_329 : decode cL_isPort 329 = .ok (.aload 5, 2) := by decide +kernel
theorem dL_isPort_331 : decode cL_isPort 331 = .ok (.iconst 1, 1) := by decide +kernel
theorem dL_isPort_332 : decode cL_isPort 332 = .ok (.dup2, 1) := by decide +kernel
theorem dL_isPort_333 : decode cL_isPort 333 = .ok (.iaload, 1) := by decide +kernel
theorem dL_isPort_334 : decode cL_isPort 334 = .ok (.iconst 1, 1) := by decide +kernel
theorem dL_isPort_335 : decode cL_isPort 335 = .ok (.isub, 1) := by decide +kernel
theorem dL_isPort_336 : decode cL_isPort 336 = .ok (.iastore, 1) := by decide +kernel
theorem dL_isPort_337 : decode cL_isPort 337 = .ok (.goto 21, 3) := by decide +kernel
theorem dL_isPort_340 : decode cL_isPort 340 = .ok (.iload 11, 2) := by decide +kernel
theorem dL_isPort_342 : decode cL_isPort 342 = .ok (.ifCond .lt 16, 3) := by decide +kernel
theorem dL_isPort_345 : decode cL_isPort 345 = .ok (.aload_n 1, 1) := by decide +kernel
theorem dL_isPort_346 : decode cL_isPort 346 = .ok (.iload 11, 2) := by decide +kernel
theorem dL_isPort_348 : decode cL_isPort 348 = .ok (.iconst (-1), 1) := by decide +kernel
theorem dL_isPort_349 : decode cL_isPort 349 = .ok (.iastore, 1) := by decide +kernel
theorem dL_isPort_350 : decode cL_isPort 350 = .ok (.aload 5, 2) := by decide +kernel
theorem dL_isPort_352 : decode cL_isPort 352 = .ok (.iconst 0, 1) := by decide +kernel
theorem dL_isPort_353 : decode cL_isPort 353 = .ok (.dup2, 1) := by decide +kernel
theorem dL_isPort_354 : decode cL_isPort 354 = .ok (.iaload, 1) := by decide +kernel
theorem dL_isPort_355 : decode cL_isPort 355 = .ok (.iconst 1, 1) := by decide +kernel
theorem dL_isPort_356 : decode cL_isPort 356 = .ok (.isub, 1) := by decide +kernel
theorem dL_isPort_357 : decode cL_isPort 357 = .ok (.iastore, 1) := by decide +kernel
theorem dL_isPort_358 : decode cL_isPort 358 = .ok (.aload_n 1, 1) := by decide +kernel
theorem dL_isPort_359 : decode cL_isPort 359 = .ok (.iload 9, 2) := by decide +kernel
theorem dL_isPort_361 : decode cL_isPort 361 = .ok (.iconst (-1), 1) := by decide +kernel
theorem dL_isPort_362 : decode cL_isPort 362 = .ok (.iastore, 1) := by decide +kernel
theorem dL_isPort_363 : decode cL_isPort 363 = .ok (.aload_n 0, 1) := by decide +kernel
theorem dL_isPort_364 : decode cL_isPort 364 = .ok (.iconst 1, 1) := by decide +kernel
theorem dL_isPort_365 : decode cL_isPort 365 = .ok (.iload 9, 2) := by decide +kernel
theorem dL_isPort_367 : decode cL_isPort 367 = .ok (.iconst 5, 1) := by decide +kernel
theorem dL_isPort_368 : decode cL_isPort 368 = .ok (.idiv, 1) := by decide +kernel
theorem dL_isPort_369 : decode cL_isPort 369 = .ok (.iload 9, 2) := by decide +kernel
theorem dL_isPort_371 : decode cL_isPort 371 = .ok (.iconst 5, 1) := by decide +kernel
theorem dL_isPort_372 : decode cL_isPort 372 = .ok (.irem, 1) := by decide +kernel
theorem dL_isPort_373 : decode cL_isPort 373 = .ok (.iconst 0, 1) := by decide +kernel
theorem dL_isPort_374 : decode cL_isPort 374 = .ok (.iconst 0, 1) := by decide +kernel
theorem dL_isPort_375 : decode cL_isPort 375 = .ok (.iconst 0, 1) := by decide +kernel
theorem dL_isPort_376 : decode cL_isPort 376 = .ok (.invokestatic 98, 3) := by decide +kernel
theorem dL_isPort_379 : decode cL_isPort 379 = .ok (.iload 12, 2) := by decide +kernel
theorem dL_isPort_381 : decode cL_isPort 381 = .ok (.if_icmp .ne 7, 3) := by decide +kernel
theorem dL_isPort_384 : decode cL_isPort 384 = .ok (.iconst 1, 1) := by decide +kernel
theorem dL_isPort_385 : decode cL_isPort 385 = .ok (.goto 4, 3) := by decide +kernel
theorem dL_isPort_388 : decode cL_isPort 388 = .ok (.iconst 0, 1) := by decide +kernel
theorem dL_isPort_389 : decode cL_isPort 389 = .ok (.ireturn, 1) := by decide +kernel
theorem dL_isPort_390 : decode cL_isPort 390 = .ok (.iload 6, 2) := by decide +kernel
theorem dL_isPort_392 : decode cL_isPort 392 = .ok (.iconst 3, 1) := by decide +kernel
theorem dL_isPort_393 : decode cL_isPort 393 = .ok (.if_icmp .ne 52, 3) := by decide +kernel
theorem dL_isPort_396 : decode cL_isPort 396 = .ok (.aload 4, 2) := by decide +kernel
theorem dL_isPort_398 : decode cL_isPort 398 = .ok (.iload 9, 2) := by decide +kernel
theorem dL_isPort_400 : decode cL_isPort 400 = .ok (.iconst 5, 1) := by decide +kernel
theorem dL_isPort_401 : decode cL_isPort 401 = .ok (.idiv, 1) := by decide +kernel
theorem dL_isPort_402 : decode cL_isPort 402 = .ok (.iaload, 1) := by decide +kernel
theorem dL_isPort_403 : decode cL_isPort 403 = .ok (.istore 11, 2) := by decide +kernel
theorem dL_isPort_405 : decode cL_isPort 405 = .ok (.aload 4, 2) := by decide +kernel
theorem dL_isPort_407 : decode cL_isPort 407 = .ok (.iload 9, 2) := by decide +kernel
theorem dL_isPort_409 : decode cL_isPort 409 = .ok (.iconst 5, 1) := by decide +kernel
theorem dL_isPort_410 : decode cL_isPort 410 = .ok (.idiv, 1) := by decide +kernel
theorem dL_isPort_411 : decode cL_isPort 411 = .ok (.iload 8, 2) := by decide +kernel
theorem dL_isPort_413 : decode cL_isPort 413 = .ok (.bipush 16, 2) := by decide +kernel
theorem dL_isPort_415 : decode cL_isPort 415 = .ok (.irem, 1) := by decide +kernel
theorem dL_isPort_416 : decode cL_isPort 416 = .ok (.iastore, 1) := by decide +kernel
theorem dL_isPort_417 : decode cL_isPort 417 = .ok (.aload_n 0, 1) := by decide +kernel
theorem dL_isPort_418 : decode cL_isPort 418 = .ok (.iconst 3, 1) := by decide +kernel
theorem dL_isPort_419 : decode cL_isPort 419 = .ok (.iload 9, 2) := by decide +kernel
theorem dL_isPort_421 : decode cL_isPort 421 = .ok (.iconst 5, 1) := by decide +kernel
theorem dL_isPort_422 : decode cL_isPort 422 = .ok (.idiv, 1) := by decide +kernel
theorem dL_isPort_423 : decode cL_isPort 423 = .ok (.iload 8, 2) := by decide +kernel
theorem dL_isPort_425 : decode cL_isPort 425 = .ok (.bipush 16, 2) := by decide +kernel
theorem dL_isPort_427 : decode cL_isPort 427 = .ok (.irem, 1) := by decide +kernel
theorem dL_isPort_428 : decode cL_isPort 428 = .ok (.iconst 0, 1) := by decide +kernel
theorem dL_isPort_429 : decode cL_isPort 429 = .ok (.iconst 0, 1) := by decide +kernel
theorem dL_isPort_430 : decode cL_isPort 430 = .ok (.iconst 0, 1) := by decide +kernel
theorem dL_isPort_431 : decode cL_isPort 431 = .ok (.invokestatic 98, 3) := by decide +kernel
theorem dL_isPort_434 : decode cL_isPort 434 = .ok (.iload 11, 2) := by decide +kernel
theorem dL_isPort_436 : decode cL_isPort 436 = .ok (.if_icmp .ne 7, 3) := by decide +kernel
theorem dL_isPort_439 : decode cL_isPort 439 = .ok (.iconst 1, 1) := by decide +kernel
theorem dL_isPort_440 : decode cL_isPort 440 = .ok (.goto 4, 3) := by decide +kernel
theorem dL_isPort_443 : decode cL_isPort 443 = .ok (.iconst 0, 1) := by decide +kernel
theorem dL_isPort_444 : decode cL_isPort 444 = .ok (.ireturn, 1) := by decide +kernel
theorem dL_isPort_445 : decode cL_isPort 445 = .ok (.iload 6, 2) := by decide +kernel
theorem dL_isPort_447 : decode cL_isPort 447 = .ok (.iconst 4, 1) := by decide +kernel
theorem dL_isPort_448 : decode cL_isPort 448 = .ok (.if_icmp .ne 67, 3) := by decide +kernel
theorem dL_isPort_451 : decode cL_isPort 451 = .ok (.aload_n 0, 1) := by decide +kernel
theorem dL_isPort_452 : decode cL_isPort 452 = .ok (.iload 9, 2) := by decide +kernel
theorem dL_isPort_454 : decode cL_isPort 454 = .ok (.iconst 5, 1) := by decide +kernel
theorem dL_isPort_455 : decode cL_isPort 455 = .ok (.idiv, 1) := by decide +kernel
theorem dL_isPort_456 : decode cL_isPort 456 = .ok (.iload 9, 2) := by decide +kernel
theorem dL_isPort_458 : decode cL_isPort 458 = .ok (.iconst 5, 1) := by decide +kernel
theorem dL_isPort_459 : decode cL_isPort 459 = .ok (.irem, 1) := by decide +kernel
theorem dL_isPort_460 : decode cL_isPort 460 = .ok (.iconst 2, 1) := by decide +kernel
theorem dL_isPort_461 : decode cL_isPort 461 = .ok (.invokevirtual 56, 3) := by decide +kernel
theorem dL_isPort_464 : decode cL_isPort 464 = .ok (.istore 11, 2) := by decide +kernel
theorem dL_isPort_466 : decode cL_isPort 466 = .ok (.aload_n 0, 1) := by decide +kernel
theorem dL_isPort_467 : decode cL_isPort 467 = .ok (.iconst 4, 1) := by decide +kernel
theorem dL_isPort_468 : decode cL_isPort 468 = .ok (.iload 9, 2) := by decide +kernel
theorem dL_isPort_470 : decode cL_isPort 470 = .ok (.iconst 5, 1) := by decide +kernel
theorem dL_isPort_471 : decode cL_isPort 471 = .ok (.idiv, 1) := by decide +kernel
theorem dL_isPort_472 : decode cL_isPort 472 = .ok (.iload 9, 2) := by decide +kernel
theorem dL_isPort_474 : decode cL_isPort 474 = .ok (.iconst 5, 1) := by decide +kernel
theorem dL_isPort_475 : decode cL_isPort 475 = .ok (.irem, 1) := by decide +kernel
theorem dL_isPort_476 : decode cL_isPort 476 = .ok (.iconst 0, 1) := by decide +kernel
theorem dL_isPort_477 : decode cL_isPort 477 = .ok (.iconst 0, 1) := by decide +kernel
theorem dL_isPort_478 : decode cL_isPort 478 = .ok (.iconst 0, 1) := by decide +kernel
theorem dL_isPort_479 : decode cL_isPort 479 = .ok (.invokestatic 98, 3) := by decide +kernel
theorem dL_isPort_482 : decode cL_isPort 482 = .ok (.iconst 1, 1) := by decide +kernel
theorem dL_isPort_483 : decode cL_isPort 483 = .ok (.iload 11, 2) := by decide +kernel
theorem dL_isPort_485 : decode cL_isPort 485 = .ok (.isub, 1) := by decide +kernel
theorem dL_isPort_486 : decode cL_isPort 486 = .ok (.if_icmp .ne 27, 3) := by decide +kernel
theorem dL_isPort_489 : decode cL_isPort 489 = .ok (.aload_n 0, 1) := by decide +kernel
theorem dL_isPort_490 : decode cL_isPort 490 = .ok (.iload 9, 2) := by decide +kernel
theorem dL_isPort_492 : decode cL_isPort 492 = .ok (.iconst 5, 1) := by decide +kernel
theorem dL_isPort_493 : decode cL_isPort 493 = .ok (.idiv, 1) := by decide +kernel
theorem dL_isPort_494 : decode cL_isPort 494 = .ok (.iload 9, 2) := by decide +kernel
theorem dL_isPort_496 : decode cL_isPort 496 = .ok (.iconst 5, 1) := by decide +kernel
theorem dL_isPort_497 : decode cL_isPort 497 = .ok (.irem, 1) := by decide +kernel
theorem dL_isPort_498 : decode cL_isPort 498 = .ok (.iconst 2, 1) := by decide +kernel
theorem dL_isPort_499 : decode cL_isPort 499 = .ok (.invokevirtual 56, 3) := by decide +kernel
theorem dL_isPort_502 : decode cL_isPort 502 = .ok (.iconst 1, 1) := by decide +kernel
theorem dL_isPort_503 : decode cL_isPort 503 = .ok (.iload 11, 2) := by decide +kernel
theorem dL_isPort_505 : decode cL_isPort 505 = .ok (.isub, 1) := by decide +kernel
theorem dL_isPort_506 : decode cL_isPort 506 = .ok (.if_icmp .ne 7, 3) := by decide +kernel
theorem dL_isPort_509 : decode cL_isPort 509 = .ok (.iconst 1, 1) := by decide +kernel
theorem dL_isPort_510 : decode cL_isPort 510 = .ok (.goto 4, 3) := by decide +kernel
theorem dL_isPort_513 : decode cL_isPort 513 = .ok (.iconst 0, 1) := by decide +kernel
theorem dL_isPort_514 : decode cL_isPort 514 = .ok (.ireturn, 1) := by decide +kernel
theorem dL_isPort_515 : decode cL_isPort 515 = .ok (.iload 6, 2) := by decide +kernel
theorem dL_isPort_517 : decode cL_isPort 517 = .ok (.iconst 5, 1) := by decide +kernel
theorem dL_isPort_518 : decode cL_isPort 518 = .ok (.if_icmp .ne 90, 3) := by decide +kernel
theorem dL_isPort_521 : decode cL_isPort 521 = .ok (.iload 8, 2) := by decide +kernel
theorem dL_isPort_523 : decode cL_isPort 523 = .ok (.iconst 4, 1) := by decide +kernel
theorem dL_isPort_524 : decode cL_isPort 524 = .ok (.irem, 1) := by decide +kernel
theorem dL_isPort_525 : decode cL_isPort 525 = .ok (.istore 11, 2) := by decide +kernel
theorem dL_isPort_527 : decode cL_isPort 527 = .ok (.aload 5, 2) := by decide +kernel
theorem dL_isPort_529 : decode cL_isPort 529 = .ok (.iconst 3, 1) := by decide +kernel
theorem dL_isPort_530 : decode cL_isPort 530 = .ok (.iload 11, 2) := by decide +kernel
theorem dL_isPort_532 : decode cL_isPort 532 = .ok (.ifCond .le 13, 3) := by decide +kernel
theorem dL_isPort_535 : decode cL_isPort 535 = .ok (.iload 11, 2) := by decide +kernel
theorem dL_isPort_537 : decode cL_isPort 537 = .ok (.iconst 3, 1) := by decide +kernel
theorem dL_isPort_538 : decode cL_isPort 538 = .ok (.if_icmp .ge 7, 3) := by decide +kernel
theorem dL_isPort_541 : decode cL_isPort 541 = .ok (.iconst 0, 1) := by decide +kernel
theorem dL_isPort_542 : decode cL_isPort 542 = .ok (.goto 7, 3) := by decide +kernel
theorem dL_isPort_545 : decode cL_isPort 545 = .ok (.aload 5, 2) := by decide +kernel
theorem dL_isPort_547 : decode cL_isPort 547 = .ok (.iconst 3, 1) := by decide +kernel
theorem dL_isPort_548 : decode cL_isPort 548 = .ok (.iaload, 1) := by decide +kernel
theorem dL_isPort_549 : decode cL_isPort 549 = .ok (.iastore, 1) := by decide +kernel
theorem dL_isPort_550 : decode cL_isPort 550 = .ok (.aload_n 0, 1) := by decide +kernel
theorem dL_isPort_551 : decode cL_isPort 551 = .ok (.iconst 5, 1) := by decide +kernel
theorem dL_isPort_552 : decode cL_isPort 552 = .ok (.iload 9, 2) := by decide +kernel
theorem dL_isPort_554 : decode cL_isPort 554 = .ok (.iconst 5, 1) := by decide +kernel
theorem dL_isPort_555 : decode cL_isPort 555 = .ok (.idiv, 1) := by decide +kernel
theorem dL_isPort_556 : decode cL_isPort 556 = .ok (.iload 9, 2) := by decide +kernel
theorem dL_isPort_558 : decode cL_isPort 558 = .ok (.iconst 5, 1) := by decide +kernel
theorem dL_isPort_559 : decode cL_isPort 559 = .ok (.irem, 1) := by decide +kernel
theorem dL_isPort_560 : decode cL_isPort 560 = .ok (.iload 11, 2) := by decide +kernel
theorem dL_isPort_562 : decode cL_isPort 562 = .ok (.iconst 0, 1) := by decide +kernel
theorem dL_isPort_563 : decode cL_isPort 563 = .ok (.iconst 0, 1) := by decide +kernel
theorem dL_isPort_564 : decode cL_isPort 564 = .ok (.invokestatic 98, 3) := by decide +kernel
theorem dL_isPort_567 : decode cL_isPort 567 = .ok (.istore 12, 2) := by decide +kernel
theorem dL_isPort_569 : decode cL_isPort 569 = .ok (.iload 11, 2) := by decide +kernel
theorem dL_isPort_571 : decode cL_isPort 571 = .ok (.iconst 3, 1) := by decide +kernel
theorem dL_isPort_572 : decode cL_isPort 572 = .ok (.if_icmp .ne 19, 3) := by decide +kernel
theorem dL_isPort_575 : decode cL_isPort 575 = .ok (.iload 12, 2) := by decide +kernel
theorem dL_isPort_577 : decode cL_isPort 577 = .ok (.sipush (-2000), 3) := by decide +kernel
theorem dL_isPort_580 : decode cL_isPort 580 = .ok (.if_icmp .ne 7, 3) := by decide +kernel
theorem dL_isPort_583 : decode cL_isPort 583 = .ok (.iconst 1, 1) := by decide +kernel
theorem dL_isPort_584 : decode cL_isPort 584 = .ok (.goto 23, 3) := by decide +kernel
theorem dL_isPort_587 : decode cL_isPort 587 = .ok (.iconst 0, 1) := by decide +kernel
theorem dL_isPort_588 : decode cL_isPort 588 = .ok (.goto 19, 3) := by decide +kernel
theorem dL_isPort_591 : decode cL_isPort 591 = .ok (.iload 12, 2) := by decide +kernel
theorem dL_isPort_593 : decode cL_isPort 593 = .ok (.ifCond .lt 13, 3) := by decide +kernel
theorem dL_isPort_596 : decode cL_isPort 596 = .ok (.iload 12, 2) := by decide +kernel
theorem dL_isPort_598 : decode cL_isPort 598 = .ok (.iconst 3, 1) := by decide +kernel
theorem dL_isPort_599 : decode cL_isPort 599 = .ok (.if_icmp .ge 7, 3) := by decide +kernel
theorem dL_isPort_602 : decode cL_isPort 602 = .ok (.iconst 1, 1) := by decide +kernel
theorem dL_isPort_603 : decode cL_isPort 603 = .ok (.goto 4, 3) := by decide +kernel
theorem dL_isPort_606 : decode cL_isPort 606 = .ok (.iconst 0, 1) := by decide +kernel
theorem dL_isPort_607 : decode cL_isPort 607 = .ok (.ireturn, 1) := by decide +kernel
theorem dL_isPort_608 : decode cL_isPort 608 = .ok (.iload 6, 2) := by decide +kernel
theorem dL_isPort_610 : decode cL_isPort 610 = .ok (.bipush 6, 2) := by decide +kernel
theorem dL_isPort_612 : decode cL_isPort 612 = .ok (.if_icmp .ne 46, 3) := by decide +kernel
theorem dL_isPort_615 : decode cL_isPort 615 = .ok (.aload_n 0, 1) := by decide +kernel
theorem dL_isPort_616 : decode cL_isPort 616 = .ok (.bipush 6, 2) := by decide +kernel
theorem dL_isPort_618 : decode cL_isPort 618 = .ok (.iload 9, 2) := by decide +kernel
theorem dL_isPort_620 : decode cL_isPort 620 = .ok (.iconst 5, 1) := by decide +kernel
theorem dL_isPort_621 : decode cL_isPort 621 = .ok (.idiv, 1) := by decide +kernel
theorem dL_isPort_622 : decode cL_isPort 622 = .ok (.iload 9, 2) := by decide +kernel
theorem dL_isPort_624 : decode cL_isPort 624 = .ok (.iconst 5, 1) := by decide +kernel
theorem dL_isPort_625 : decode cL_isPort 625 = .ok (.irem, 1) := by decide +kernel
theorem dL_isPort_626 : decode cL_isPort 626 = .ok (.iload 8, 2) := by decide +kernel
theorem dL_isPort_628 : decode cL_isPort 628 = .ok (.iconst 4, 1) := by decide +kernel
theorem dL_isPort_629 : decode cL_isPort 629 = .ok (.irem, 1) := by decide +kernel
theorem dL_isPort_630 : decode cL_isPort 630 = .ok (.iconst 0, 1) := by decide +kernel
theorem dL_isPort_631 : decode cL_isPort 631 = .ok (.iconst 0, 1) := by decide +kernel
theorem dL_isPort_632 : decode cL_isPort 632 = .ok (.invokestatic 98, 3) := by decide +kernel
theorem dL_isPort_635 : decode cL_isPort 635 = .ok (.iload 8, 2) := by decide +kernel
theorem dL_isPort_637 : decode cL_isPort 637 = .ok (.iconst 4, 1) := by decide +kernel
theorem dL_isPort_638 : decode cL_isPort 638 = .ok (.irem, 1) := by decide +kernel
theorem dL_isPort_639 : decode cL_isPort 639 = .ok (.ifCond .ne 9, 3) := by decide +kernel
theorem dL_isPort_642 : decode cL_isPort 642 = .ok (.sipush (-3000), 3) := by decide +kernel
theorem dL_isPort_645 : decode cL_isPort 645 = .ok (.goto 4, 3) := by decide +kernel
theorem dL_isPort_648 : decode cL_isPort 648 = .ok (.iconst 0, 1) := by decide +kernel
theorem dL_isPort_649 : decode cL_isPort 649 = .ok (.if_icmp .ne 7, 3) := by decide +kernel
theorem dL_isPort_652 : decode cL_isPort 652 = .ok (.iconst 1, 1) := by decide +kernel
theorem dL_isPort_653 : decode cL_isPort 653 = .ok (.goto 4, 3) := by decide +kernel
theorem dL_isPort_656 : decode cL_isPort 656 = .ok (.iconst 0, 1) := by decide +kernel
theorem dL_isPort_657 : decode cL_isPort 657 = .ok (.ireturn, 1) := by decide +kernel
theorem dL_isPort_658 : decode cL_isPort 658 = .ok (.aload_n 0, 1) := by decide +kernel
theorem dL_isPort_659 : decode cL_isPort 659 = .ok (.bipush 7, 2) := by decide +kernel
theorem dL_isPort_661 : decode cL_isPort 661 = .ok (.iload 9, 2) := by decide +kernel
theorem dL_isPort_663 : decode cL_isPort 663 = .ok (.iconst 5, 1) := by decide +kernel
theorem dL_isPort_664 : decode cL_isPort 664 = .ok (.idiv, 1) := by decide +kernel
theorem dL_isPort_665 : decode cL_isPort 665 = .ok (.iload 9, 2) := by decide +kernel
theorem dL_isPort_667 : decode cL_isPort 667 = .ok (.iconst 5, 1) := by decide +kernel
theorem dL_isPort_668 : decode cL_isPort 668 = .ok (.irem, 1) := by decide +kernel
theorem dL_isPort_669 : decode cL_isPort 669 = .ok (.iload 8, 2) := by decide +kernel
theorem dL_isPort_671 : decode cL_isPort 671 = .ok (.bipush 9, 2) := by decide +kernel
theorem dL_isPort_673 : decode cL_isPort 673 = .ok (.irem, 1) := by decide +kernel
theorem dL_isPort_674 : decode cL_isPort 674 = .ok (.iload 8, 2) := by decide +kernel
theorem dL_isPort_676 : decode cL_isPort 676 = .ok (.bipush 9, 2) := by decide +kernel
theorem dL_isPort_678 : decode cL_isPort 678 = .ok (.idiv, 1) := by decide +kernel
theorem dL_isPort_679 : decode cL_isPort 679 = .ok (.iconst 4, 1) := by decide +kernel
theorem dL_isPort_680 : decode cL_isPort 680 = .ok (.irem, 1) := by decide +kernel
theorem dL_isPort_681 : decode cL_isPort 681 = .ok (.iconst 0, 1) := by decide +kernel
theorem dL_isPort_682 : decode cL_isPort 682 = .ok (.invokestatic 98, 3) := by decide +kernel
theorem dL_isPort_685 : decode cL_isPort 685 = .ok (.iload 8, 2) := by decide +kernel
theorem dL_isPort_687 : decode cL_isPort 687 = .ok (.bipush 9, 2) := by decide +kernel
theorem dL_isPort_689 : decode cL_isPort 689 = .ok (.idiv, 1) := by decide +kernel
theorem dL_isPort_690 : decode cL_isPort 690 = .ok (.iconst 4, 1) := by decide +kernel
theorem dL_isPort_691 : decode cL_isPort 691 = .ok (.irem, 1) := by decide +kernel
theorem dL_isPort_692 : decode cL_isPort 692 = .ok (.ifCond .ne 9, 3) := by decide +kernel
theorem dL_isPort_695 : decode cL_isPort 695 = .ok (.sipush (-3000), 3) := by decide +kernel
theorem dL_isPort_698 : decode cL_isPort 698 = .ok (.goto 28, 3) := by decide +kernel
theorem dL_isPort_701 : decode cL_isPort 701 = .ok (.iload 8, 2) := by decide +kernel
theorem dL_isPort_703 : decode cL_isPort 703 = .ok (.bipush 9, 2) := by decide +kernel
theorem dL_isPort_705 : decode cL_isPort 705 = .ok (.irem, 1) := by decide +kernel
theorem dL_isPort_706 : decode cL_isPort 706 = .ok (.ifCond .eq 13, 3) := by decide +kernel
theorem dL_isPort_709 : decode cL_isPort 709 = .ok (.iload 8, 2) := by decide +kernel
theorem dL_isPort_711 : decode cL_isPort 711 = .ok (.bipush 9, 2) := by decide +kernel
theorem dL_isPort_713 : decode cL_isPort 713 = .ok (.irem, 1) := by decide +kernel
theorem dL_isPort_714 : decode cL_isPort 714 = .ok (.bipush 8, 2) := by decide +kernel
theorem dL_isPort_716 : decode cL_isPort 716 = .ok (.if_icmp .ne 9, 3) := by decide +kernel
theorem dL_isPort_719 : decode cL_isPort 719 = .ok (.sipush (-2000), 3) := by decide +kernel
theorem dL_isPort_722 : decode cL_isPort 722 = .ok (.goto 4, 3) := by decide +kernel
theorem dL_isPort_725 : decode cL_isPort 725 = .ok (.iconst 0, 1) := by decide +kernel
theorem dL_isPort_726 : decode cL_isPort 726 = .ok (.if_icmp .ne 7, 3) := by decide +kernel
theorem dL_isPort_729 : decode cL_isPort 729 = .ok (.iconst 1, 1) := by decide +kernel
theorem dL_isPort_730 : decode cL_isPort 730 = .ok (.goto 4, 3) := by decide +kernel
theorem dL_isPort_733 : decode cL_isPort 733 = .ok (.iconst 0, 1) := by decide +kernel
theorem dL_isPort_734 : decode cL_isPort 734 = .ok (.ireturn, 1) := by decide +kernel
set_option maxRecDepth 20000 in
theorem ggL_isSent_L_does : GoodIn wsL_isSent wsL_does := goodIn_ca (goodIn_ca (goodIn_ca (goodIn_r _ [4, 5, 6, 7, 8, 9, 10, 11, 12, 13, 14, 15, 16, 17, 18, 19, 20, 21, 22, 23, 24, 25, 26, 27, 28, 29, 30, 31, 32, 33, 34, 35, 36, 37, 38, 39, 40, 41, 42, 43, 44, 45, 46, 47, 48, 49, 50, 51, 52, 53, 54, 55, 56, 57, 58, 59, 60, 61, 62, 63, 64, 65, 66, 67, 68, 69, 70, 71, 72, 73, 74, 75, 76, 77, 78, 79, 80, 81, 82, 83, 84, 85, 86, 87, 88, 89, 90, 91, 92, 93, 94, 95, 96, 97, 98, 99, 100, 101, 102, 103, 104, 105, 106, 107, 108, 109, 110, 111, 112, 113, 114, 115, 116, 117, 118, 119, 120, 121, 122, 123, 124, 125, 126, 127, 128, 129, 130, 131, 132, 133, 134, 135, 136, 137, 138, 139, 140, 3, 141, 142, 143, 144, 145, 146, 147, 148, 149, 150, 151, 152, 153, 154, 155, 156, 157, 158, 159, 160, 161, 162, 163, 164, 165, 166, 167, 168, 169, 170, 171, 172, 173, 174, 175, 176, 177, 178, 179, 180, 181, 182, 183, 184, 185, 186, 187, 188, 189, 190, 191, 192, 193, 194, 195, 196, 197, 198, 199, 200, 201, 202, 203, 204, 205, 206, 207, 208, 209, 210, 211, 212, 213, 214, 215, 216, 217, 218, 219, 220, 221, 222, 223, 224, 225, 226, 227, 228, 229, 230, 231, 232, 233, 234, 235, 236, 237, 238, 239, 240, 241, 242, 243, 244, 245, 246, 247, 248, 249, 250, 251, 252, 253, 254, 255, 256, 257, 258, 259, 260, 261, 262, 263, 264, 265, 266, 267, 268, 269, 270, 271, 272, 273, 274, 275, 276, 277, 278, 279, 280, 281, 282, 283, 284, 285, 286, 287, 288, 289, 290, 291, 292, 293, 294, 295, 296, 297, 298, 299, 300, 301, 302, 303, 304, 305, 306, 307, 308, 309, 310, 311, 312, 313, 314, 315, 316, 317, 318, 319, 320, 321, 322, 323, 324, 325, 326, 327, 328, 329, 330, 331, 332, 333, 334, 335, 336, 337, 338, 339, 340, 341, 342, 343, 344, 345, 346, 347, 348, 349, 350, 351, 352, 353, 354, 355, 356, 357, 358, 359, 360, 361, 362, 363, 364, 365, 366, 367, 368, 369, 370, 371, 372, 373, 374, 375, 376, 377, 378, 379, 380, 381, 382, 383, 384, 385, 386, 387, 388, 389, 390, 391, 392, 393, 394, 395, 396, 397, 398, 399, 400, 401, 402, 403, 404, 405, 406, 407, 408, 409, 410, 411, 412, 413, 414, 415, 416, 417, 418, 419, 420, 421, 422, 423, 424, 425, 426] (by decide +kernel) (by decide +kernel)) (goodIn_sub (fun _ h => List.mem_cons_of_mem _ (List.mem_append_left _ (List.mem_append_left _ (List.mem_append_right _ h)))) (by decide +kernel))) (goodIn_sub (fun _ h => List.mem_cons_of_mem _ (List.mem_append_left _ (List.mem_append_right _ h))) (by decide +kernel))) (goodIn_sub (fun _ h => List.mem_cons_of_mem _ (List.mem_append_right _ h)) (by decide +kernel))
set_option maxRecDepth 20000 in
theorem gL_isSent_L_does : GoodIn wsL_isSent (va_wsS RL 98 yL_does wsL_does) := goodIn_app (goodIn_of _ (by decide +kernel)) ggL_isSent_L_does
theorem dL_isSent_0 : decode cL_isSent 0 = .ok (.iload 4, 2) := by decide +kernel
theorem dL_isSent_2 : decode cL_isSent 2 = .ok (.bipush 10, 2) := by decide +kernel
theorem dL_isSent_4 : decode cL_isSent 4 = .ok (.irem, 1) := by decide +kernel
theorem dL_isSent_5 : decode cL_isSent 5 = .ok (.istore 6, 2) := by decide +kernel
theorem dL_isSent_7 : decode cL_isSent 7 = .ok (.iload 4, 2) := by decide +kernel
theorem dL_isSent_9 : decode cL_isSent 9 = .ok (.bipush 10, 2) := by decide +kernel
theorem dL_isSent_11 : decode cL_isSent 11 = .ok (.idiv, 1) := by decide +kernel
theorem dL_isSent_12 : decode cL_isSent 12 = .ok (.bipush 12, 2) := by decide +kernel
theorem dL_isSent_14 : decode cL_isSent 14 = .ok (.irem, 1) := by decide +kernel
theorem dL_isSent_15 : decode cL_isSent 15 = .ok (.istore 7, 2) := by decide +kernel
theorem dL_isSent_17 : decode cL_isSent 17 = .ok (.iload 5, 2) := by decide +kernel
theorem dL_isSent_19 : decode cL_isSent 19 = .ok (.iconst 5, 1) := by decide +kernel
theorem dL_isSent_20 : decode cL_isSent 20 = .ok (.irem, 1) := by decide +kernel
theorem dL_isSent_21 : decode cL_isSent 21 = .ok (.ifCond .ne 12, 3) := by decide +kernel
theorem dL_isSent_24 : decode cL_isSent 24 = .ok (.iload 5, 2) := by decide +kernel
theorem dL_isSent_26 : decode cL_isSent 26 = .ok (.iconst 5, 1) := by decide +kernel
theorem dL_isSent_27 : decode cL_isSent 27 = .ok (.idiv, 1) := by decide +kernel
theorem dL_isSent_28 : decode cL_isSent 28 = .ok (.iconst 5, 1) := by decide +kernel
theorem dL_isSent_29 : decode cL_isSent 29 = .ok (.irem, 1) := by decide +kernel
theorem dL_isSent_30 : decode cL_isSent 30 = .ok (.goto 4, 3) := by decide +kernel
theorem dL_isSent_33 : decode cL_isSent 33 = .ok (.iconst 0, 1) := by decide +kernel
theorem dL_isSent_34 : decode cL_isSent 34 = .ok (.istore 8, 2) := by decide +kernel
theorem dL_isSent_36 : decode cL_isSent 36 = .ok (.iload 5, 2) := by decide +kernel
theorem dL_isSent_38 : decode cL_isSent 38 = .ok (.bipush 25, 2) := by decide +kernel
theorem dL_isSent_40 : decode cL_isSent 40 = .ok (.idiv, 1) := by decide +kernel
theorem dL_isSent_41 : decode cL_isSent 41 = .ok (.iconst 4, 1) := by decide +kernel
theorem dL_isSent_42 : decode cL_isSent 42 = .ok (.irem, 1) := by decide +kernel
theorem dL_isSent_43 : decode cL_isSent 43 = .ok (.ifCond .ne 13, 3) := by decide +kernel
theorem dL_isSent_46 : decode cL_isSent 46 = .ok (.iload 5, 2) := by decide +kernel
theorem dL_isSent_48 : decode cL_isSent 48 = .ok (.bipush 100, 2) := by decide +kernel
theorem dL_isSent_50 : decode cL_isSent 50 = .ok (.idiv, 1) := by decide +kernel
theorem dL_isSent_51 : decode cL_isSent 51 = .ok (.iconst 4, 1) := by decide +kernel
theorem dL_isSent_52 : decode cL_isSent 52 = .ok (.irem, 1) := by decide +kernel
theorem dL_isSent_53 : decode cL_isSent 53 = .ok (.goto 4, 3) := by decide +kernel
theorem dL_isSent_56 : decode cL_isSent 56 = .ok (.iconst 0, 1) := by decide +kernel
theorem dL_isSent_57 : decode cL_isSent 57 = .ok (.istore 9, 2) := by decide +kernel
theorem dL_isSent_59 : decode cL_isSent 59 = .ok (.aload_n 0, 1) := by decide +kernel
theorem dL_isSent_60 : decode cL_isSent 60 = .ok (.bipush 10, 2) := by decide +kernel
theorem dL_isSent_62 : decode cL_isSent 62 = .ok (.iload 6, 2) := by decide +kernel
theorem dL_isSent_64 : decode cL_isSent 64 = .ok (.iload 7, 2) := by decide +kernel
theorem dL_isSent_66 : decode cL_isSent 66 = .ok (.iload 8, 2) := by decide +kernel
theorem dL_isSent_68 : decode cL_isSent 68 = .ok (.iload 9, 2) := by decide +kernel
theorem dL_isSent_70 : decode cL_isSent 70 = .ok (.iconst 0, 1) := by decide +kernel
theorem dL_isSent_71 : decode cL_isSent 71 = .ok (.invokestatic 98, 3) := by decide +kernel
theorem dL_isSent_74 : decode cL_isSent 74 = .ok (.istore 10, 2) := by decide +kernel
theorem dL_isSent_76 : decode cL_isSent 76 = .ok (.iload 7, 2) := by decide +kernel
theorem dL_isSent_78 : decode cL_isSent 78 = .ok (.bipush 11, 2) := by decide +kernel
theorem dL_isSent_80 : decode cL_isSent 80 = .ok (.if_icmp .ne 9, 3) := by decide +kernel
theorem dL_isSent_83 : decode cL_isSent 83 = .ok (.sipush (-3000), 3) := by decide +kernel
theorem dL_isSent_86 : decode cL_isSent 86 = .ok (.goto 46, 3) := by decide +kernel
theorem dL_isSent_89 : decode cL_isSent 89 = .ok (.iload 6, 2) := by decide +kernel
theorem dL_isSent_91 : decode cL_isSent 91 = .ok (.iload 7, 2) := by decide +kernel
theorem dL_isSent_93 : decode cL_isSent 93 = .ok (.if_icmp .eq 19, 3) := by decide +kernel
theorem dL_isSent_96 : decode cL_isSent 96 = .ok (.iload 8, 2) := by decide +kernel
theorem dL_isSent_98 : decode cL_isSent 98 = .ok (.iconst 4, 1) := by decide +kernel
theorem dL_isSent_99 : decode cL_isSent 99 = .ok (.if_icmp .eq 13, 3) := by decide +kernel
theorem dL_isSent_102 : decode cL_isSent 102 = .ok (.iload 8, 2) := by decide +kernel
theorem dL_isSent_104 : decode cL_isSent 104 = .ok (.ifCond .ne 14, 3) := by decide +kernel
theorem dL_isSent_107 : decode cL_isSent 107 = .ok (.iload 9, 2) := by decide +kernel
theorem dL_isSent_109 : decode cL_isSent 109 = .ok (.ifCond .le 9, 3) := by decide +kernel
theorem dL_isSent_112 : decode cL_isSent 112 = .ok (.sipush (-2000), 3) := by decide +kernel
theorem dL_isSent_115 : decode cL_isSent 115 = .ok (.goto 17, 3) := by decide +kernel
theorem dL_isSent_118 : decode cL_isSent 118 = .ok (.aload_n 2, 1) := by decide +kernel
theorem dL_isSent_119 : decode cL_isSent 119 = .ok (.iload 6, 2) := by decide +kernel
theorem dL_isSent_121 : decode cL_isSent 121 = .ok (.iaload, 1) := by decide +kernel
theorem dL_isSent_122 : decode cL_isSent 122 = .ok (.ifCond .ge 9, 3) := by decide +kernel
theorem dL_isSent_125 : decode cL_isSent 125 = .ok (.sipush (-1000), 3) := by decide +kernel
theorem dL_isSent_128 : decode cL_isSent 128 = .ok (.goto 4, 3) := by decide +kernel
theorem dL_isSent_131 : decode cL_isSent 131 = .ok (.iconst 0, 1) := by decide +kernel
theorem dL_isSent_132 : decode cL_isSent 132 = .ok (.istore 11, 2) := by decide +kernel
theorem dL_isSent_134 : decode cL_isSent 134 = .ok (.iload 11, 2) := by decide +kernel
theorem dL_isSent_136 : decode cL_isSent 136 = .ok (.ifCond .ge 16, 3) := by decide +kernel
theorem dL_isSent_139 : decode cL_isSent 139 = .ok (.iload 10, 2) := by decide +kernel
theorem dL_isSent_141 : decode cL_isSent 141 = .ok (.iload 11, 2) := by decide +kernel
theorem dL_isSent_143 : decode cL_isSent 143 = .ok (.if_icmp .ne 7, 3) := by decide +kernel
theorem dL_isSent_146 : decode cL_isSent 146 = .ok (.iconst 1, 1) := by decide +kernel
theorem dL_isSent_147 : decode cL_isSent 147 = .ok (.goto 4, 3) := by decide +kernel
theorem dL_isSent_150 : decode cL_isSent 150 = .ok (.iconst 0, 1) := by decide +kernel
theorem dL_isSent_151 : decode cL_isSent 151 = .ok (.ireturn, 1) := by decide +kernel
theorem dL_isSent_152 : decode cL_isSent 152 = .ok (.aload_n 3, 1) := by decide +kernel
theorem dL_isSent_153 : decode cL_isSent 153 = .ok (.iconst 4, 1) := by decide +kernel
theorem dL_isSent_154 : decode cL_isSent 154 = .ok (.dup2, 1) := by decide +kernel
theorem dL_isSent_155 : decode cL_isSent 155 = .ok (.iaload, 1) := by decide +kernel
theorem dL_isSent_156 : decode cL_isSent 156 = .ok (.iload 10, 2) := by decide +kernel
theorem dL_isSent_158 : decode cL_isSent 158 = .ok (.iadd, 1) := by decide +kernel
theorem dL_isSent_159 : decode cL_isSent 159 = .ok (.iastore, 1) := by decide +kernel
theorem dL_isSent_160 : decode cL_isSent 160 = .ok (.aload_n 0, 1) := by decide +kernel
theorem dL_isSent_161 : decode cL_isSent 161 = .ok (.bipush 16, 2) := by decide +kernel
theorem dL_isSent_163 : decode cL_isSent 163 = .ok (.iload 6, 2) := by decide +kernel
theorem dL_isSent_165 : decode cL_isSent 165 = .ok (.iload 7, 2) := by decide +kernel
theorem dL_isSent_167 : decode cL_isSent 167 = .ok (.bipush 10, 2) := by decide +kernel
theorem dL_isSent_169 : decode cL_isSent 169 = .ok (.if_icmp .ne 7, 3) := by decide +kernel
theorem dL_isSent_172 : decode cL_isSent 172 = .ok (.iconst 0, 1) := by decide +kernel
theorem dL_isSent_173 : decode cL_isSent 173 = .ok (.goto 5, 3) := by decide +kernel
theorem dL_isSent_176 : decode cL_isSent 176 = .ok (.iload 7, 2) := by decide +kernel
theorem dL_isSent_178 : decode cL_isSent 178 = .ok (.iconst 0, 1) := by decide +kernel
theorem dL_isSent_179 : decode cL_isSent 179 = .ok (.iconst 0, 1) := by decide +kernel
theorem dL_isSent_180 : decode cL_isSent 180 = .ok (.iconst 0, 1) := by decide +kernel
theorem dL_isSent_181 : decode cL_isSent 181 = .ok (.invokestatic 98, 3) := by decide +kernel
theorem dL_isSent_184 : decode cL_isSent 184 = .ok (.istore 12, 2) := by decide +kernel
theorem dL_isSent_186 : decode cL_isSent 186 = .ok (.iload 10, 2) := by decide +kernel
theorem dL_isSent_188 : decode cL_isSent 188 = .ok (.ifCond .lt 51, 3) := by decide +kernel
theorem dL_isSent_191 : decode cL_isSent 191 = .ok (.iload 10, 2) := by decide +kernel
theorem dL_isSent_193 : decode cL_isSent 193 = .ok (.sipush 2000, 3) := by decide +kernel
theorem dL_isSent_196 : decode cL_isSent 196 = .ok (.if_icmp .ge 43, 3) := by decide +kernel
theorem dL_isSent_199 : decode cL_isSent 199 = .ok (.iload 7, 2) := by decide +kernel
theorem dL_isSent_201 : decode cL_isSent 201 = .ok (.bipush 10, 2) := by decide +kernel
theorem dL_isSent_203 : decode cL_isSent 203 = .ok (.if_icmp .eq 32, 3) := by decide +kernel
theorem dL_isSent_206 : decode cL_isSent 206 = .ok (.iload 12, 2) := by decide +kernel
theorem dL_isSent_208 : decode cL_isSent 208 = .ok (.sipush (-1000), 3) := by decide +kernel
theorem dL_isSent_211 : decode cL_isSent 211 = .ok (.if_icmp .eq 24, 3) := by decide +kernel
theorem dL_isSent_214 : decode cL_isSent 214 = .ok (.iload 12, 2) := by decide +kernel
theorem dL_isSent_216 : decode cL_isSent 216 = .ok (.sipush (-2000), 3) := by decide +kernel
theorem dL_isSent_219 : decode cL_isSent 219 = .ok (.if_icmp .eq 16, 3) := by decide +kernel
theorem dL_isSent_222 : decode cL_isSent 222 = .ok (.iload 12, 2) := by decide +kernel
theorem dL_isSent_224 : decode cL_isSent 224 = .ok (.iconst (-1), 1) := by decide +kernel
theorem dL_isSent_225 : decode cL_isSent 225 = .ok (.if_icmp .lt 14, 3) := by decide +kernel
theorem dL_isSent_228 : decode cL_isSent 228 = .ok (.iload 12, 2) := by decide +kernel
theorem dL_isSent_230 : decode cL_isSent 230 = .ok (.bipush 13, 2) := by decide +kernel
theorem dL_isSent_232 : decode cL_isSent 232 = .ok (.if_icmp .ge 7, 3) := by decide +kernel
theorem dL_isSent_235 : decode cL_isSent 235 = .ok (.iconst 1, 1) := by decide +kernel
theorem dL_isSent_236 : decode cL_isSent 236 = .ok (.goto 4, 3) := by decide +kernel
theorem dL_isSent_239 : decode cL_isSent 239 = .ok (.iconst 0, 1) := by decide +kernel
theorem dL_isSent_240 : decode cL_isSent 240 = .ok (.ireturn, 1) := by decide +kernel
set_option maxRecDepth 20000 in
theorem ggL_law_X5_init : GoodIn wsL_law wsX5_init := goodIn_r _ [8, 9, 10, 11, 12, 13, 14, 15, 16, 17, 18, 19, 20, 21, 22, 23, 24, 25, 26, 27, 28, 29, 30, 31, 32, 3, 33, 34, 35, 36, 37, 38, 39, 40, 41, 42, 43, 44, 45, 46, 47, 48, 49, 50, 51, 52, 53, 54, 55, 56, 57, 58, 59, 60, 61, 62, 63, 64, 65, 66, 67, 68, 69, 70, 71, 72, 73, 74, 75, 76, 77, 78, 79, 80, 81, 82, 83, 84, 85, 86, 477, 478, 479, 480, 481, 482, 483, 484, 467, 468, 469, 470, 471, 472, 473, 474, 475, 476, 485, 486, 487, 488, 489, 490, 491, 492, 493, 494, 495, 496, 497, 498, 499, 500, 501, 502, 503, 504, 505, 506, 507, 508, 509, 510] (by decide +kernel) (by decide +kernel)
set_option maxRecDepth 20000 in
theorem gL_law_X5_init : GoodIn wsL_law (wsX5_init) := ggL_law_X5_init
set_option maxRecDepth 20000 in
theorem ggL_law_X5_isAtRest : GoodIn wsL_law wsX5_isAtRest := goodIn_r _ [90, 20, 19, 91, 92, 93, 18, 94, 51, 52, 53, 54, 55, 57, 58, 59, 95, 96, 97, 98, 99, 64, 100, 101, 102, 103, 60, 66, 104, 61, 62, 105, 106, 107, 108, 109, 110, 111, 112, 113, 114, 115, 116, 63, 117, 118, 119, 120, 121, 122, 123, 124, 125, 126, 127, 128, 129, 130, 2, 131, 132, 133, 134, 135, 136, 137, 138, 139, 140, 141, 142, 143, 14, 144, 46, 145, 146, 147, 148, 149, 150, 151, 152, 153, 154, 155, 156, 157, 158, 159, 160, 161, 162, 163, 164, 165, 166, 167, 168, 169, 170, 171, 172, 173, 174, 175, 176, 177, 178, 179, 180, 181, 182, 183, 184, 185, 467, 468, 469, 470, 471, 472, 473, 474, 475, 476, 485, 486, 487, 488, 489, 490, 491, 492, 493, 494, 495, 496, 497, 498, 499, 500, 477, 478, 479, 480, 481, 482, 483, 484] (by decide +kernel) (by decide +kernel)
set_option maxRecDepth 20000 in
theorem gL_law_X5_isAtRest : GoodIn wsL_law (wsV RL 103 RX5 yX5_isAtRest wsX5_isAtRest) := goodIn_app (goodIn_of _ (by decide +kernel)) ggL_law_X5_isAtRest
set_option maxRecDepth 20000 in
theorem ggL_law_L_does : GoodIn wsL_law wsL_does := goodIn_ca (goodIn_ca (goodIn_ca (goodIn_r _ [189, 190, 191, 192, 193, 194, 195, 2, 196, 197, 198, 199, 200, 15, 201, 202, 203, 204, 205, 206, 207, 208, 209, 210, 211, 212, 213, 130, 131, 214, 215, 216, 14, 217, 41, 43, 218, 219, 220, 221, 42, 222, 223, 224, 225, 226, 227, 228, 229, 230, 231, 19, 28, 232, 123, 124, 18, 125, 57, 58, 59, 233, 234, 235, 27, 236, 77, 237, 238, 239, 240, 79, 241, 242, 243, 244, 45, 245, 246, 247, 248, 249, 250, 251, 252, 253, 254, 255, 256, 257, 258, 259, 260, 261, 262, 263, 174, 175, 176, 66, 177, 109, 110, 111, 112, 55, 264, 265, 266, 267, 268, 269, 270, 271, 272, 273, 274, 170, 171, 172, 173, 275, 276, 277, 278, 279, 119, 120, 121, 122, 280, 281, 282, 283, 284, 285, 286, 188, 287, 288, 289, 290, 291, 24, 292, 293, 294, 295, 296, 23, 297, 298, 299, 300, 301, 71, 72, 302, 303, 304, 305, 306, 307, 308, 309, 310, 311, 312, 36, 313, 314, 315, 316, 317, 318, 319, 320, 321, 33, 322, 323, 96, 97, 98, 99, 95, 64, 100, 101, 102, 103, 60, 104, 51, 61, 52, 62, 53, 105, 106, 107, 108, 113, 114, 115, 116, 63, 117, 118, 126, 127, 128, 129, 54, 132, 133, 134, 135, 136, 137, 138, 139, 140, 141, 142, 143, 144, 46, 145, 146, 147, 148, 149, 150, 151, 152, 153, 154, 155, 156, 157, 158, 159, 160, 161, 162, 163, 164, 165, 166, 167, 168, 169, 324, 325, 326, 327, 328, 329, 330, 331, 78, 332, 333, 334, 335, 32, 336, 337, 338, 339, 31, 340, 341, 342, 343, 344, 345, 83, 84, 85, 86, 346, 347, 348, 349, 350, 351, 352, 353, 354, 355, 356, 357, 358, 359, 360, 361, 362, 363, 364, 365, 366, 367, 368, 369, 370, 371, 372, 373, 374, 375, 376, 377, 378, 379, 380, 381, 382, 383, 384, 385, 386, 387, 388, 389, 390, 391, 392, 34, 35, 393, 394, 395, 396, 397, 398, 399, 400, 401, 402, 403, 404, 405, 406, 407, 408, 409, 410, 411, 412, 413, 414, 415, 416, 417, 418, 419, 420, 421, 422, 423, 424, 425, 426, 427, 65, 428, 429, 430, 431, 432, 433, 434, 435, 436, 437, 438, 439, 440, 467, 468, 469, 470, 471, 472, 473, 474, 475, 476, 477, 478, 479, 480, 481, 482, 483, 484, 485, 486, 487, 488, 489, 490, 491, 492, 493, 494, 495, 496, 497, 498, 499, 500, 503, 504, 505, 501, 502, 506, 507, 508, 509, 510] (by decide +kernel) (by decide +kernel)) (goodIn_sub (fun _ h => List.mem_append_left _ (List.mem_append_left _ (List.mem_append_right _ h))) (by decide +kernel))) (goodIn_sub (fun _ h => List.mem_append_left _ (List.mem_append_right _ h)) (by decide +kernel))) (goodIn_sub (fun _ h => List.mem_append_right _ h) (by decide +kernel))
set_option maxRecDepth 20000 in
theorem gL_law_L_does : GoodIn wsL_law (va_wsS RL 98 yL_does wsL_does) := goodIn_app (goodIn_of _ (by decide +kernel)) ggL_law_L_does
set_option maxRecDepth 20000 in
theorem ggL_law_L_part : GoodIn wsL_law wsL_part := goodIn_r _ [443, 444] (by decide +kernel) (by decide +kernel)
set_option maxRecDepth 20000 in
theorem gL_law_L_part : GoodIn wsL_law (va_wsS RL 107 yL_part wsL_part) := goodIn_app (goodIn_of _ (by decide +kernel)) ggL_law_L_part
set_option maxRecDepth 20000 in
theorem ggL_law_L_isPort : GoodIn wsL_law wsL_isPort := goodIn_ca (goodIn_ca (goodIn_ca (goodIn_r _ [447, 186, 187, 188, 189, 190, 191, 192, 193, 194, 195, 2, 196, 197, 198, 199, 200, 15, 201, 202, 203, 204, 205, 206, 207, 208, 209, 210, 211, 212, 213, 130, 131, 214, 215, 216, 14, 217, 41, 43, 218, 219, 220, 221, 42, 222, 223, 224, 225, 226, 227, 228, 229, 230, 231, 19, 28, 232, 123, 124, 18, 125, 57, 58, 59, 233, 234, 235, 27, 236, 77, 237, 238, 239, 240, 79, 241, 242, 243, 244, 45, 245, 246, 247, 248, 249, 250, 251, 252, 253, 254, 255, 256, 257, 258, 259, 260, 261, 262, 263, 174, 175, 176, 66, 177, 109, 110, 111, 112, 55, 264, 265, 266, 267, 268, 269, 270, 271, 272, 273, 274, 170, 171, 172, 173, 275, 276, 277, 278, 279, 119, 120, 121, 122, 280, 281, 282, 283, 284, 285, 286, 287, 288, 289, 290, 291, 24, 292, 293, 294, 295, 296, 23, 297, 298, 299, 300, 301, 71, 72, 302, 303, 304, 305, 306, 307, 308, 309, 310, 311, 312, 36, 313, 314, 315, 316, 317, 318, 319, 320, 321, 33, 322, 323, 96, 97, 98, 99, 95, 64, 100, 101, 102, 103, 60, 104, 51, 61, 52, 62, 53, 105, 106, 107, 108, 113, 114, 115, 116, 63, 117, 118, 126, 127, 128, 129, 54, 132, 133, 134, 135, 136, 137, 138, 139, 140, 141, 142, 143, 144, 46, 145, 146, 147, 148, 149, 150, 151, 152, 153, 154, 155, 156, 157, 158, 159, 160, 161, 162, 163, 164, 165, 166, 167, 168, 169, 324, 325, 326, 327, 328, 329, 330, 331, 78, 332, 333, 334, 335, 32, 336, 337, 338, 339, 31, 340, 341, 342, 343, 344, 345, 83, 84, 85, 86, 346, 347, 348, 349, 350, 351, 352, 353, 354, 355, 356, 357, 358, 359, 360, 361, 362, 363, 364, 365, 366, 367, 368, 369, 370, 371, 372, 373, 374, 375, 376, 377, 378, 379, 380, 381, 382, 383, 384, 385, 386, 387, 388, 389, 390, 391, 392, 34, 35, 393, 394, 395, 396, 397, 398, 399, 400, 401, 402, 403, 404, 405, 406, 407, 408, 409, 410, 411, 412, 413, 414, 415, 416, 417, 418, 419, 420, 421, 422, 423, 424, 425, 426, 427, 65, 428, 429, 430, 431, 432, 433, 434, 435, 436, 437, 438, 439, 440, 467, 468, 469, 470, 471, 472, 473, 474, 475, 476, 477, 478, 479, 480, 481, 482, 483, 484, 485, 486, 487, 488, 489, 490, 491, 492, 493, 494, 495, 496, 497, 498, 499, 500, 503, 504, 505, 501, 502, 506, 507, 508, 509, 510] (by decide +kernel) (by decide +kernel)) (goodIn_sub (fun _ h => List.mem_append_left _ (List.mem_append_left _ (List.mem_append_right _ h))) (by decide +kernel))) (goodIn_sub (fun _ h => List.mem_append_left _ (List.mem_append_right _ h)) (by decide +kernel))) (goodIn_sub (fun _ h => List.mem_append_right _ h) (by decide +kernel))
set_option maxRecDepth 20000 in
theorem gL_law_L_isPort : GoodIn wsL_law (va_wsS RL 113 yL_isPort wsL_isPort) := goodIn_app (goodIn_of _ (by decide +kernel)) ggL_law_L_isPort
set_option maxRecDepth 20000 in
theorem ggL_law_X5_limit : GoodIn wsL_law wsX5_limit := goodIn_ca (goodIn_r _ [312, 36, 210, 211, 2, 212, 197, 198, 467, 468, 469, 470, 471, 472, 473, 474, 475, 476] (by decide +kernel) (by decide +kernel)) (goodIn_sub (fun _ h => List.mem_append_left _ (List.mem_append_left _ (List.mem_append_right _ h))) (by decide +kernel))
set_option maxRecDepth 20000 in
theorem gL_law_X5_limit : GoodIn wsL_law (wsV RL 42 RX5 yX5_limit wsX5_limit) := goodIn_app (goodIn_of _ (by decide +kernel)) ggL_law_X5_limit
set_option maxRecDepth 20000 in
theorem ggL_law_L_isSent : GoodIn wsL_law wsL_isSent := goodIn_ca (goodIn_ca (goodIn_ca (goodIn_r _ [450, 186, 187, 188, 189, 190, 191, 192, 193, 194, 195, 2, 196, 197, 198, 199, 200, 15, 201, 202, 203, 204, 205, 206, 207, 208, 209, 210, 211, 212, 213, 130, 131, 214, 215, 216, 14, 217, 41, 43, 218, 219, 220, 221, 42, 222, 223, 224, 225, 226, 227, 228, 229, 230, 231, 19, 28, 232, 123, 124, 18, 125, 57, 58, 59, 233, 234, 235, 27, 236, 77, 237, 238, 239, 240, 79, 241, 242, 243, 244, 45, 245, 246, 247, 248, 249, 250, 251, 252, 253, 254, 255, 256, 257, 258, 259, 260, 261, 262, 263, 174, 175, 176, 66, 177, 109, 110, 111, 112, 55, 264, 265, 266, 267, 268, 269, 270, 271, 272, 273, 274, 170, 171, 172, 173, 275, 276, 277, 278, 279, 119, 120, 121, 122, 280, 281, 282, 283, 284, 285, 286, 287, 288, 289, 290, 291, 24, 292, 293, 294, 295, 296, 23, 297, 298, 299, 300, 301, 71, 72, 302, 303, 304, 305, 306, 307, 308, 309, 310, 311, 312, 36, 313, 314, 315, 316, 317, 318, 319, 320, 321, 33, 322, 323, 96, 97, 98, 99, 95, 64, 100, 101, 102, 103, 60, 104, 51, 61, 52, 62, 53, 105, 106, 107, 108, 113, 114, 115, 116, 63, 117, 118, 126, 127, 128, 129, 54, 132, 133, 134, 135, 136, 137, 138, 139, 140, 141, 142, 143, 144, 46, 145, 146, 147, 148, 149, 150, 151, 152, 153, 154, 155, 156, 157, 158, 159, 160, 161, 162, 163, 164, 165, 166, 167, 168, 169, 324, 325, 326, 327, 328, 329, 330, 331, 78, 332, 333, 334, 335, 32, 336, 337, 338, 339, 31, 340, 341, 342, 343, 344, 345, 83, 84, 85, 86, 346, 347, 348, 349, 350, 351, 352, 353, 354, 355, 356, 357, 358, 359, 360, 361, 362, 363, 364, 365, 366, 367, 368, 369, 370, 371, 372, 373, 374, 375, 376, 377, 378, 379, 380, 381, 382, 383, 384, 385, 386, 387, 388, 389, 390, 391, 392, 34, 35, 393, 394, 395, 396, 397, 398, 399, 400, 401, 402, 403, 404, 405, 406, 407, 408, 409, 410, 411, 412, 413, 414, 415, 416, 417, 418, 419, 420, 421, 422, 423, 424, 425, 426, 427, 65, 428, 429, 430, 431, 432, 433, 434, 435, 436, 437, 438, 439, 440, 467, 468, 469, 470, 471, 472, 473, 474, 475, 476, 477, 478, 479, 480, 481, 482, 483, 484, 485, 486, 487, 488, 489, 490, 491, 492, 493, 494, 495, 496, 497, 498, 499, 500, 503, 504, 505, 501, 502, 506, 507, 508, 509, 510] (by decide +kernel) (by decide +kernel)) (goodIn_sub (fun _ h => List.mem_append_left _ (List.mem_append_left _ (List.mem_append_right _ h))) (by decide +kernel))) (goodIn_sub (fun _ h => List.mem_append_left _ (List.mem_append_right _ h)) (by decide +kernel))) (goodIn_sub (fun _ h => List.mem_append_right _ h) (by decide +kernel))
set_option maxRecDepth 20000 in
theorem gL_law_L_isSent : GoodIn wsL_law (va_wsS RL 117 yL_isSent wsL_isSent) := goodIn_app (goodIn_of _ (by decide +kernel)) ggL_law_L_isSent
set_option maxRecDepth 20000 in
theorem ggL_law_X5_beat : GoodIn wsL_law wsX5_beat := goodIn_ca (goodIn_r _ [316, 19, 317, 210, 211, 2, 212, 197, 198, 318, 319, 320, 321, 33, 322, 28, 323, 96, 97, 98, 18, 99, 95, 64, 100, 101, 102, 103, 60, 66, 104, 51, 61, 52, 62, 53, 105, 106, 107, 108, 109, 110, 111, 112, 55, 113, 114, 115, 116, 63, 117, 118, 119, 120, 121, 122, 123, 124, 125, 57, 58, 59, 126, 127, 128, 129, 54, 130, 131, 132, 133, 134, 135, 136, 137, 138, 139, 140, 141, 142, 143, 14, 144, 46, 145, 146, 147, 148, 149, 150, 151, 152, 153, 154, 155, 156, 157, 158, 159, 160, 161, 162, 163, 164, 165, 166, 167, 168, 169, 170, 171, 172, 173, 174, 175, 176, 177, 233, 234, 235, 27, 236, 77, 237, 238, 239, 240, 79, 324, 325, 326, 327, 328, 329, 330, 331, 78, 467, 468, 469, 470, 471, 472, 473, 474, 475, 476, 485, 486, 487, 488, 489, 490, 491, 492, 493, 494, 495, 496, 497, 498, 499, 500, 477, 478, 479, 480, 481, 482, 483, 484, 503, 504, 505] (by decide +kernel) (by decide +kernel)) (goodIn_sub (fun _ h => List.mem_append_left _ (List.mem_append_left _ (List.mem_append_right _ h))) (by decide +kernel))
set_option maxRecDepth 20000 in
theorem gL_law_X5_beat : GoodIn wsL_law (wsV RL 46 RX5 yX5_beat wsX5_beat) := goodIn_app (goodIn_of _ (by decide +kernel)) ggL_law_X5_beat
set_option maxRecDepth 20000 in
theorem ggL_law_L_areAll : GoodIn wsL_law wsL_areAll := goodIn_ca (goodIn_ca (goodIn_r _ [453, 406, 407, 408, 2, 409, 197, 198, 19, 352, 410, 33, 202, 203, 204, 205, 206, 207, 208, 209, 213, 130, 131, 273, 110, 111, 18, 112, 55, 411, 412, 413, 414, 28, 292, 293, 294, 256, 257, 258, 373, 374, 375, 27, 376, 77, 370, 371, 372, 397, 398, 399, 400, 401, 402, 403, 404, 405, 419, 420, 421, 422, 423, 15, 424, 425, 426, 427, 65, 66, 104, 136, 105, 106, 107, 108, 109, 428, 429, 430, 431, 432, 142, 143, 14, 144, 46, 454, 455, 188, 456, 3, 457, 458, 459, 460, 461, 462, 463, 415, 416, 417, 418, 35, 34, 467, 468, 469, 470, 471, 472, 473, 474, 475, 476, 485, 486, 487, 488, 489, 490, 491, 492, 493, 494, 495, 496, 497, 498, 499, 500, 503, 504, 505, 477, 478, 479, 480, 481, 482, 483, 484] (by decide +kernel) (by decide +kernel)) (goodIn_sub (fun _ h => List.mem_append_left _ (List.mem_append_left _ (List.mem_append_right _ h))) (by decide +kernel))) (goodIn_sub (fun _ h => List.mem_append_right _ h) (by decide +kernel))
set_option maxRecDepth 20000 in
theorem gL_law_L_areAll : GoodIn wsL_law (va_wsS RL 121 yL_areAll wsL_areAll) := goodIn_app (goodIn_of _ (by decide +kernel)) ggL_law_L_areAll
set_option maxRecDepth 20000 in
theorem ggL_law_L_isTree : GoodIn wsL_law wsL_isTree := goodIn_ca (goodIn_ca (goodIn_r _ [466, 397, 398, 399, 2, 400, 197, 198, 19, 401, 402, 403, 404, 28, 405, 207, 208, 209, 205, 206, 454, 455, 188, 456, 3, 457, 458, 459, 460, 406, 407, 408, 409, 352, 410, 33, 202, 203, 204, 213, 130, 131, 273, 110, 111, 18, 112, 55, 461, 462, 463, 467, 468, 469, 470, 471, 472, 473, 474, 475, 476, 485, 486, 487, 488, 489, 490, 491, 492, 493, 494, 495, 496, 497, 498, 499, 500, 503, 504, 505] (by decide +kernel) (by decide +kernel)) (goodIn_sub (fun _ h => List.mem_append_left _ (List.mem_append_left _ (List.mem_append_right _ h))) (by decide +kernel))) (goodIn_sub (fun _ h => List.mem_append_right _ h) (by decide +kernel))
set_option maxRecDepth 20000 in
theorem gL_law_L_isTree : GoodIn wsL_law (va_wsS RL 125 yL_isTree wsL_isTree) := goodIn_app (goodIn_of _ (by decide +kernel)) ggL_law_L_isTree
theorem dL_law_0 : decode cL_law 0 = .ok (.new 9, 3) := by decide +kernel
theorem dL_law_3 : decode cL_law 3 = .ok (.dup, 1) := by decide +kernel
theorem dL_law_4 : decode cL_law 4 = .ok (.invokespecial 102, 3) := by decide +kernel
theorem dL_law_7 : decode cL_law 7 = .ok (.astore_n 1, 1) := by decide +kernel
theorem dL_law_8 : decode cL_law 8 = .ok (.bipush 30, 2) := by decide +kernel
theorem dL_law_10 : decode cL_law 10 = .ok (.newarray .int, 2) := by decide +kernel
theorem dL_law_12 : decode cL_law 12 = .ok (.astore_n 2, 1) := by decide +kernel
theorem dL_law_13 : decode cL_law 13 = .ok (.bipush 30, 2) := by decide +kernel
theorem dL_law_15 : decode cL_law 15 = .ok (.newarray .int, 2) := by decide +kernel
theorem dL_law_17 : decode cL_law 17 = .ok (.astore_n 3, 1) := by decide +kernel
theorem dL_law_18 : decode cL_law 18 = .ok (.bipush 10, 2) := by decide +kernel
theorem dL_law_20 : decode cL_law 20 = .ok (.newarray .int, 2) := by decide +kernel
theorem dL_law_22 : decode cL_law 22 = .ok (.astore 4, 2) := by decide +kernel
theorem dL_law_24 : decode cL_law 24 = .ok (.bipush 6, 2) := by decide +kernel
theorem dL_law_26 : decode cL_law 26 = .ok (.newarray .int, 2) := by decide +kernel
theorem dL_law_28 : decode cL_law 28 = .ok (.astore 5, 2) := by decide +kernel
theorem dL_law_30 : decode cL_law 30 = .ok (.bipush 6, 2) := by decide +kernel
theorem dL_law_32 : decode cL_law 32 = .ok (.newarray .int, 2) := by decide +kernel
theorem dL_law_34 : decode cL_law 34 = .ok (.astore 6, 2) := by decide +kernel
theorem dL_law_36 : decode cL_law 36 = .ok (.iconst 0, 1) := by decide +kernel
theorem dL_law_37 : decode cL_law 37 = .ok (.istore 7, 2) := by decide +kernel
theorem dL_law_39 : decode cL_law 39 = .ok (.iload 7, 2) := by decide +kernel
theorem dL_law_41 : decode cL_law 41 = .ok (.bipush 30, 2) := by decide +kernel
theorem dL_law_43 : decode cL_law 43 = .ok (.if_icmp .ge 14, 3) := by decide +kernel
theorem dL_law_46 : decode cL_law 46 = .ok (.aload_n 2, 1) := by decide +kernel
theorem dL_law_47 : decode cL_law 47 = .ok (.iload 7, 2) := by decide +kernel
theorem dL_law_49 : decode cL_law 49 = .ok (.iconst (-1), 1) := by decide +kernel
theorem dL_law_50 : decode cL_law 50 = .ok (.iastore, 1) := by decide +kernel
theorem dL_law_51 : decode cL_law 51 = .ok (.iinc 7 1, 3) := by decide +kernel
theorem dL_law_54 : decode cL_law 54 = .ok (.goto (-15), 3) := by decide +kernel
theorem dL_law_57 : decode cL_law 57 = .ok (.iconst 0, 1) := by decide +kernel
theorem dL_law_58 : decode cL_law 58 = .ok (.istore 7, 2) := by decide +kernel
theorem dL_law_60 : decode cL_law 60 = .ok (.iload 7, 2) := by decide +kernel
theorem dL_law_62 : decode cL_law 62 = .ok (.bipush 10, 2) := by decide +kernel
theorem dL_law_64 : decode cL_law 64 = .ok (.if_icmp .ge 15, 3) := by decide +kernel
theorem dL_law_67 : decode cL_law 67 = .ok (.aload 4, 2) := by decide +kernel
theorem dL_law_69 : decode cL_law 69 = .ok (.iload 7, 2) := by decide +kernel
theorem dL_law_71 : decode cL_law 71 = .ok (.iconst (-1), 1) := by decide +kernel
theorem dL_law_72 : decode cL_law 72 = .ok (.iastore, 1) := by decide +kernel
theorem dL_law_73 : decode cL_law 73 = .ok (.iinc 7 1, 3) := by decide +kernel
theorem dL_law_76 : decode cL_law 76 = .ok (.goto (-16), 3) := by decide +kernel
theorem dL_law_79 : decode cL_law 79 = .ok (.iconst 0, 1) := by decide +kernel
theorem dL_law_80 : decode cL_law 80 = .ok (.istore 7, 2) := by decide +kernel
theorem dL_law_82 : decode cL_law 82 = .ok (.iload 7, 2) := by decide +kernel
theorem dL_law_84 : decode cL_law 84 = .ok (.bipush 6, 2) := by decide +kernel
theorem dL_law_86 : decode cL_law 86 = .ok (.if_icmp .ge 16, 3) := by decide +kernel
theorem dL_law_89 : decode cL_law 89 = .ok (.aload 5, 2) := by decide +kernel
theorem dL_law_91 : decode cL_law 91 = .ok (.iload 7, 2) := by decide +kernel
theorem dL_law_93 : decode cL_law 93 = .ok (.bipush 8, 2) := by decide +kernel
theorem dL_law_95 : decode cL_law 95 = .ok (.iastore, 1) := by decide +kernel
theorem dL_law_96 : decode cL_law 96 = .ok (.iinc 7 1, 3) := by decide +kernel
theorem dL_law_99 : decode cL_law 99 = .ok (.goto (-17), 3) := by decide +kernel
theorem dL_law_102 : decode cL_law 102 = .ok (.aload 6, 2) := by decide +kernel
theorem dL_law_104 : decode cL_law 104 = .ok (.iconst 3, 1) := by decide +kernel
theorem dL_law_105 : decode cL_law 105 = .ok (.iconst 1, 1) := by decide +kernel
theorem dL_law_106 : decode cL_law 106 = .ok (.iastore, 1) := by decide +kernel
theorem dL_law_107 : decode cL_law 107 = .ok (.aload 6, 2) := by decide +kernel
theorem dL_law_109 : decode cL_law 109 = .ok (.iconst 5, 1) := by decide +kernel
theorem dL_law_110 : decode cL_law 110 = .ok (.bipush 20, 2) := by decide +kernel
theorem dL_law_112 : decode cL_law 112 = .ok (.iastore, 1) := by decide +kernel
theorem dL_law_113 : decode cL_law 113 = .ok (.aload_n 1, 1) := by decide +kernel
theorem dL_law_114 : decode cL_law 114 = .ok (.invokevirtual 103, 3) := by decide +kernel
theorem dL_law_117 : decode cL_law 117 = .ok (.ifCond .eq 145, 3) := by decide +kernel
theorem dL_law_120 : decode cL_law 120 = .ok (.aload_n 1, 1) := by decide +kernel
theorem dL_law_121 : decode cL_law 121 = .ok (.bipush 11, 2) := by decide +kernel
theorem dL_law_123 : decode cL_law 123 = .ok (.bipush 6, 2) := by decide +kernel
theorem dL_law_125 : decode cL_law 125 = .ok (.iconst 0, 1) := by decide +kernel
theorem dL_law_126 : decode cL_law 126 = .ok (.iconst 0, 1) := by decide +kernel
theorem dL_law_127 : decode cL_law 127 = .ok (.iconst 0, 1) := by decide +kernel
theorem dL_law_128 : decode cL_law 128 = .ok (.iconst 0, 1) := by decide +kernel
theorem dL_law_129 : decode cL_law 129 = .ok (.invokestatic 98, 3) := by decide +kernel
theorem dL_law_132 : decode cL_law 132 = .ok (.sipush (-3000), 3) := by decide +kernel
theorem dL_law_135 : decode cL_law 135 = .ok (.if_icmp .ne 127, 3) := by decide +kernel
theorem dL_law_138 : decode cL_law 138 = .ok (.aload_n 1, 1) := by decide +kernel
theorem dL_law_139 : decode cL_law 139 = .ok (.bipush 11, 2) := by decide +kernel
theorem dL_law_141 : decode cL_law 141 = .ok (.iconst 0, 1) := by decide +kernel
theorem dL_law_142 : decode cL_law 142 = .ok (.iconst 5, 1) := by decide +kernel
theorem dL_law_143 : decode cL_law 143 = .ok (.iconst 0, 1) := by decide +kernel
theorem dL_law_144 : decode cL_law 144 = .ok (.iconst 0, 1) := by decide +kernel
theorem dL_law_145 : decode cL_law 145 = .ok (.iconst 0, 1) := by decide +kernel
theorem dL_law_146 : decode cL_law 146 = .ok (.invokestatic 98, 3) := by decide +kernel
theorem dL_law_149 : decode cL_law 149 = .ok (.sipush (-2000), 3) := by decide +kernel
theorem dL_law_152 : decode cL_law 152 = .ok (.if_icmp .ne 110, 3) := by decide +kernel
theorem dL_law_155 : decode cL_law 155 = .ok (.aload_n 1, 1) := by decide +kernel
theorem dL_law_156 : decode cL_law 156 = .ok (.bipush 12, 2) := by decide +kernel
theorem dL_law_158 : decode cL_law 158 = .ok (.iconst 0, 1) := by decide +kernel
theorem dL_law_159 : decode cL_law 159 = .ok (.iconst 5, 1) := by decide +kernel
theorem dL_law_160 : decode cL_law 160 = .ok (.iconst 0, 1) := by decide +kernel
theorem dL_law_161 : decode cL_law 161 = .ok (.iconst 0, 1) := by decide +kernel
theorem dL_law_162 : decode cL_law 162 = .ok (.iconst 0, 1) := by decide +kernel
theorem dL_law_163 : decode cL_law 163 = .ok (.invokestatic 98, 3) := by decide +kernel
theorem dL_law_166 : decode cL_law 166 = .ok (.sipush (-3000), 3) := by decide +kernel
theorem dL_law_169 : decode cL_law 169 = .ok (.if_icmp .ne 93, 3) := by decide +kernel
theorem dL_law_172 : decode cL_law 172 = .ok (.aload_n 1, 1) := by decide +kernel
theorem dL_law_173 : decode cL_law 173 = .ok (.bipush 12, 2) := by decide +kernel
theorem dL_law_175 : decode cL_law 175 = .ok (.iconst 0, 1) := by decide +kernel
theorem dL_law_176 : decode cL_law 176 = .ok (.iconst 0, 1) := by decide +kernel
theorem dL_law_177 : decode cL_law 177 = .ok (.iconst 4, 1) := by decide +kernel
theorem dL_law_178 : decode cL_law 178 = .ok (.iconst 0, 1) := by decide +kernel
theorem dL_law_179 : decode cL_law 179 = .ok (.iconst 0, 1) := by decide +kernel
theorem dL_law_180 : decode cL_law 180 = .ok (.invokestatic 98, 3) := by decide +kernel
theorem dL_law_183 : decode cL_law 183 = .ok (.sipush (-2000), 3) := by decide +kernel
theorem dL_law_186 : decode cL_law 186 = .ok (.if_icmp .ne 76, 3) := by decide +kernel
theorem dL_law_189 : decode cL_law 189 = .ok (.aload_n 1, 1) := by decide +kernel
theorem dL_law_190 : decode cL_law 190 = .ok (.bipush 13, 2) := by decide +kernel
theorem dL_law_192 : decode cL_law 192 = .ok (.iconst 0, 1) := by decide +kernel
theorem dL_law_193 : decode cL_law 193 = .ok (.iconst 4, 1) := by decide +kernel
theorem dL_law_194 : decode cL_law 194 = .ok (.iconst 0, 1) := by decide +kernel
theorem dL_law_195 : decode cL_law 195 = .ok (.iconst 0, 1) := by decide +kernel
theorem dL_law_196 : decode cL_law 196 = .ok (.iconst 0, 1) := by decide +kernel
theorem dL_law_197 : decode cL_law 197 = .ok (.invokestatic 98, 3) := by decide +kernel
theorem dL_law_200 : decode cL_law 200 = .ok (.sipush (-3000), 3) := by decide +kernel
theorem dL_law_203 : decode cL_law 203 = .ok (.if_icmp .ne 59, 3) := by decide +kernel
theorem dL_law_206 : decode cL_law 206 = .ok (.aload_n 1, 1) := by decide +kernel
theorem dL_law_207 : decode cL_law 207 = .ok (.bipush 14, 2) := by decide +kernel
theorem dL_law_209 : decode cL_law 209 = .ok (.bipush 10, 2) := by decide +kernel
end
section
theorem dL_law_211 : decode cL_law 211 = .ok (.iconst 0, 1) := by decide +kernel
theorem dL_law_212 : decode cL_law 212 = .ok (.iconst 0, 1) := by decide +kernel
theorem dL_law_213 : decode cL_law 213 = .ok (.iconst 0, 1) := by decide +kernel
theorem dL_law_214 : decode cL_law 214 = .ok (.iconst 0, 1) := by decide +kernel
theorem dL_law_215 : decode cL_law 215 = .ok (.invokestatic 98, 3) := by decide +kernel
theorem dL_law_218 : decode cL_law 218 = .ok (.sipush (-3000), 3) := by decide +kernel
theorem dL_law_221 : decode cL_law 221 = .ok (.if_icmp .ne 41, 3) := by decide +kernel
theorem dL_law_224 : decode cL_law 224 = .ok (.aload_n 1, 1) := by decide +kernel
theorem dL_law_225 : decode cL_law 225 = .ok (.bipush 8, 2) := by decide +kernel
theorem dL_law_227 : decode cL_law 227 = .ok (.iconst 0, 1) := by decide +kernel
theorem dL_law_228 : decode cL_law 228 = .ok (.iconst 0, 1) := by decide +kernel
theorem dL_law_229 : decode cL_law 229 = .ok (.iconst 0, 1) := by decide +kernel
theorem dL_law_230 : decode cL_law 230 = .ok (.iconst 0, 1) := by decide +kernel
theorem dL_law_231 : decode cL_law 231 = .ok (.iconst 0, 1) := by decide +kernel
theorem dL_law_232 : decode cL_law 232 = .ok (.invokestatic 98, 3) := by decide +kernel
theorem dL_law_235 : decode cL_law 235 = .ok (.sipush (-2000), 3) := by decide +kernel
theorem dL_law_238 : decode cL_law 238 = .ok (.if_icmp .ne 24, 3) := by decide +kernel
theorem dL_law_241 : decode cL_law 241 = .ok (.aload_n 1, 1) := by decide +kernel
theorem dL_law_242 : decode cL_law 242 = .ok (.bipush 9, 2) := by decide +kernel
theorem dL_law_244 : decode cL_law 244 = .ok (.iconst 0, 1) := by decide +kernel
theorem dL_law_245 : decode cL_law 245 = .ok (.iconst 0, 1) := by decide +kernel
theorem dL_law_246 : decode cL_law 246 = .ok (.iconst 0, 1) := by decide +kernel
theorem dL_law_247 : decode cL_law 247 = .ok (.iconst 0, 1) := by decide +kernel
theorem dL_law_248 : decode cL_law 248 = .ok (.iconst 0, 1) := by decide +kernel
theorem dL_law_249 : decode cL_law 249 = .ok (.invokestatic 98, 3) := by decide +kernel
theorem dL_law_252 : decode cL_law 252 = .ok (.sipush (-2000), 3) := by decide +kernel
theorem dL_law_255 : decode cL_law 255 = .ok (.if_icmp .ne 7, 3) := by decide +kernel
theorem dL_law_258 : decode cL_law 258 = .ok (.iconst 1, 1) := by decide +kernel
theorem dL_law_259 : decode cL_law 259 = .ok (.goto 4, 3) := by decide +kernel
theorem dL_law_262 : decode cL_law 262 = .ok (.iconst 0, 1) := by decide +kernel
theorem dL_law_263 : decode cL_law 263 = .ok (.istore 7, 2) := by decide +kernel
theorem dL_law_265 : decode cL_law 265 = .ok (.iconst 0, 1) := by decide +kernel
theorem dL_law_266 : decode cL_law 266 = .ok (.istore 8, 2) := by decide +kernel
theorem dL_law_268 : decode cL_law 268 = .ok (.iload 8, 2) := by decide +kernel
theorem dL_law_270 : decode cL_law 270 = .ok (.bipush 64, 2) := by decide +kernel
theorem dL_law_272 : decode cL_law 272 = .ok (.if_icmp .ge 358, 3) := by decide +kernel
theorem dL_law_275 : decode cL_law 275 = .ok (.iload 7, 2) := by decide +kernel
theorem dL_law_277 : decode cL_law 277 = .ok (.ifCond .eq 353, 3) := by decide +kernel
theorem dL_law_280 : decode cL_law 280 = .ok (.iload 8, 2) := by decide +kernel
theorem dL_law_282 : decode cL_law 282 = .ok (.bipush 8, 2) := by decide +kernel
theorem dL_law_284 : decode cL_law 284 = .ok (.if_icmp .ge 7, 3) := by decide +kernel
theorem dL_law_287 : decode cL_law 287 = .ok (.iconst 0, 1) := by decide +kernel
theorem dL_law_288 : decode cL_law 288 = .ok (.goto 13, 3) := by decide +kernel
theorem dL_law_291 : decode cL_law 291 = .ok (.aload_n 0, 1) := by decide +kernel
theorem dL_law_292 : decode cL_law 292 = .ok (.iconst 3, 1) := by decide +kernel
theorem dL_law_293 : decode cL_law 293 = .ok (.iload 8, 2) := by decide +kernel
theorem dL_law_295 : decode cL_law 295 = .ok (.imul, 1) := by decide +kernel
theorem dL_law_296 : decode cL_law 296 = .ok (.bipush 30, 2) := by decide +kernel
theorem dL_law_298 : decode cL_law 298 = .ok (.invokestatic 107, 3) := by decide +kernel
theorem dL_law_301 : decode cL_law 301 = .ok (.istore 9, 2) := by decide +kernel
theorem dL_law_303 : decode cL_law 303 = .ok (.aload_n 0, 1) := by decide +kernel
theorem dL_law_304 : decode cL_law 304 = .ok (.iconst 3, 1) := by decide +kernel
theorem dL_law_305 : decode cL_law 305 = .ok (.iload 8, 2) := by decide +kernel
theorem dL_law_307 : decode cL_law 307 = .ok (.imul, 1) := by decide +kernel
theorem dL_law_308 : decode cL_law 308 = .ok (.iconst 1, 1) := by decide +kernel
theorem dL_law_309 : decode cL_law 309 = .ok (.iadd, 1) := by decide +kernel
theorem dL_law_310 : decode cL_law 310 = .ok (.ldc 111, 2) := by decide +kernel
theorem dL_law_312 : decode cL_law 312 = .ok (.invokestatic 107, 3) := by decide +kernel
theorem dL_law_315 : decode cL_law 315 = .ok (.istore 10, 2) := by decide +kernel
theorem dL_law_317 : decode cL_law 317 = .ok (.aload_n 0, 1) := by decide +kernel
theorem dL_law_318 : decode cL_law 318 = .ok (.iconst 3, 1) := by decide +kernel
theorem dL_law_319 : decode cL_law 319 = .ok (.iload 8, 2) := by decide +kernel
theorem dL_law_321 : decode cL_law 321 = .ok (.imul, 1) := by decide +kernel
theorem dL_law_322 : decode cL_law 322 = .ok (.iconst 2, 1) := by decide +kernel
theorem dL_law_323 : decode cL_law 323 = .ok (.iadd, 1) := by decide +kernel
theorem dL_law_324 : decode cL_law 324 = .ok (.ldc 112, 2) := by decide +kernel
theorem dL_law_326 : decode cL_law 326 = .ok (.invokestatic 107, 3) := by decide +kernel
theorem dL_law_329 : decode cL_law 329 = .ok (.istore 11, 2) := by decide +kernel
theorem dL_law_331 : decode cL_law 331 = .ok (.iload 9, 2) := by decide +kernel
theorem dL_law_333 : decode cL_law 333 = .ok (.iconst 5, 1) := by decide +kernel
theorem dL_law_334 : decode cL_law 334 = .ok (.if_icmp .ge 25, 3) := by decide +kernel
theorem dL_law_337 : decode cL_law 337 = .ok (.aload_n 1, 1) := by decide +kernel
theorem dL_law_338 : decode cL_law 338 = .ok (.aload_n 2, 1) := by decide +kernel
theorem dL_law_339 : decode cL_law 339 = .ok (.aload_n 3, 1) := by decide +kernel
theorem dL_law_340 : decode cL_law 340 = .ok (.aload 4, 2) := by decide +kernel
theorem dL_law_342 : decode cL_law 342 = .ok (.aload 5, 2) := by decide +kernel
theorem dL_law_344 : decode cL_law 344 = .ok (.aload 6, 2) := by decide +kernel
theorem dL_law_346 : decode cL_law 346 = .ok (.iconst 0, 1) := by decide +kernel
theorem dL_law_347 : decode cL_law 347 = .ok (.iload 10, 2) := by decide +kernel
theorem dL_law_349 : decode cL_law 349 = .ok (.iload 11, 2) := by decide +kernel
theorem dL_law_351 : decode cL_law 351 = .ok (.invokestatic 113, 3) := by decide +kernel
theorem dL_law_354 : decode cL_law 354 = .ok (.istore 7, 2) := by decide +kernel
theorem dL_law_356 : decode cL_law 356 = .ok (.goto 216, 3) := by decide +kernel
theorem dL_law_359 : decode cL_law 359 = .ok (.iload 9, 2) := by decide +kernel
theorem dL_law_361 : decode cL_law 361 = .ok (.bipush 9, 2) := by decide +kernel
theorem dL_law_363 : decode cL_law 363 = .ok (.if_icmp .ge 25, 3) := by decide +kernel
theorem dL_law_366 : decode cL_law 366 = .ok (.aload_n 1, 1) := by decide +kernel
theorem dL_law_367 : decode cL_law 367 = .ok (.aload_n 2, 1) := by decide +kernel
theorem dL_law_368 : decode cL_law 368 = .ok (.aload_n 3, 1) := by decide +kernel
theorem dL_law_369 : decode cL_law 369 = .ok (.aload 4, 2) := by decide +kernel
theorem dL_law_371 : decode cL_law 371 = .ok (.aload 5, 2) := by decide +kernel
theorem dL_law_373 : decode cL_law 373 = .ok (.aload 6, 2) := by decide +kernel
theorem dL_law_375 : decode cL_law 375 = .ok (.iconst 1, 1) := by decide +kernel
theorem dL_law_376 : decode cL_law 376 = .ok (.iload 10, 2) := by decide +kernel
theorem dL_law_378 : decode cL_law 378 = .ok (.iload 11, 2) := by decide +kernel
theorem dL_law_380 : decode cL_law 380 = .ok (.invokestatic 113, 3) := by decide +kernel
theorem dL_law_383 : decode cL_law 383 = .ok (.istore 7, 2) := by decide +kernel
theorem dL_law_385 : decode cL_law 385 = .ok (.goto 187, 3) := by decide +kernel
theorem dL_law_388 : decode cL_law 388 = .ok (.iload 9, 2) := by decide +kernel
theorem dL_law_390 : decode cL_law 390 = .ok (.bipush 16, 2) := by decide +kernel
theorem dL_law_392 : decode cL_law 392 = .ok (.if_icmp .ge 61, 3) := by decide +kernel
theorem dL_law_395 : decode cL_law 395 = .ok (.iload 9, 2) := by decide +kernel
theorem dL_law_397 : decode cL_law 397 = .ok (.bipush 7, 2) := by decide +kernel
theorem dL_law_399 : decode cL_law 399 = .ok (.isub, 1) := by decide +kernel
theorem dL_law_400 : decode cL_law 400 = .ok (.istore 12, 2) := by decide +kernel
theorem dL_law_402 : decode cL_law 402 = .ok (.aload_n 1, 1) := by decide +kernel
theorem dL_law_403 : decode cL_law 403 = .ok (.aload_n 2, 1) := by decide +kernel
theorem dL_law_404 : decode cL_law 404 = .ok (.aload_n 3, 1) := by decide +kernel
theorem dL_law_405 : decode cL_law 405 = .ok (.aload 4, 2) := by decide +kernel
theorem dL_law_407 : decode cL_law 407 = .ok (.aload 5, 2) := by decide +kernel
theorem dL_law_409 : decode cL_law 409 = .ok (.aload 6, 2) := by decide +kernel
theorem dL_law_411 : decode cL_law 411 = .ok (.iload 12, 2) := by decide +kernel
theorem dL_law_413 : decode cL_law 413 = .ok (.bipush 7, 2) := by decide +kernel
theorem dL_law_415 : decode cL_law 415 = .ok (.if_icmp .le 7, 3) := by decide +kernel
theorem dL_law_418 : decode cL_law 418 = .ok (.iconst 3, 1) := by decide +kernel
theorem dL_law_419 : decode cL_law 419 = .ok (.goto 22, 3) := by decide +kernel
theorem dL_law_422 : decode cL_law 422 = .ok (.iload 12, 2) := by decide +kernel
theorem dL_law_424 : decode cL_law 424 = .ok (.iconst 5, 1) := by decide +kernel
theorem dL_law_425 : decode cL_law 425 = .ok (.if_icmp .ne 14, 3) := by decide +kernel
theorem dL_law_428 : decode cL_law 428 = .ok (.iload 11, 2) := by decide +kernel
theorem dL_law_430 : decode cL_law 430 = .ok (.iconst 3, 1) := by decide +kernel
theorem dL_law_431 : decode cL_law 431 = .ok (.irem, 1) := by decide +kernel
theorem dL_law_432 : decode cL_law 432 = .ok (.ifCond .le 7, 3) := by decide +kernel
theorem dL_law_435 : decode cL_law 435 = .ok (.iconst 4, 1) := by decide +kernel
theorem dL_law_436 : decode cL_law 436 = .ok (.goto 5, 3) := by decide +kernel
theorem dL_law_439 : decode cL_law 439 = .ok (.iload 12, 2) := by decide +kernel
theorem dL_law_441 : decode cL_law 441 = .ok (.iload 10, 2) := by decide +kernel
theorem dL_law_443 : decode cL_law 443 = .ok (.iload 11, 2) := by decide +kernel
theorem dL_law_445 : decode cL_law 445 = .ok (.invokestatic 113, 3) := by decide +kernel
theorem dL_law_448 : decode cL_law 448 = .ok (.istore 7, 2) := by decide +kernel
theorem dL_law_450 : decode cL_law 450 = .ok (.goto 122, 3) := by decide +kernel
theorem dL_law_453 : decode cL_law 453 = .ok (.iload 9, 2) := by decide +kernel
theorem dL_law_455 : decode cL_law 455 = .ok (.bipush 16, 2) := by decide +kernel
theorem dL_law_457 : decode cL_law 457 = .ok (.if_icmp .ne 41, 3) := by decide +kernel
theorem dL_law_460 : decode cL_law 460 = .ok (.iconst 1, 1) := by decide +kernel
theorem dL_law_461 : decode cL_law 461 = .ok (.iload 10, 2) := by decide +kernel
theorem dL_law_463 : decode cL_law 463 = .ok (.bipush 100, 2) := by decide +kernel
theorem dL_law_465 : decode cL_law 465 = .ok (.irem, 1) := by decide +kernel
theorem dL_law_466 : decode cL_law 466 = .ok (.iadd, 1) := by decide +kernel
theorem dL_law_467 : decode cL_law 467 = .ok (.istore 12, 2) := by decide +kernel
theorem dL_law_469 : decode cL_law 469 = .ok (.aload_n 1, 1) := by decide +kernel
theorem dL_law_470 : decode cL_law 470 = .ok (.iload 12, 2) := by decide +kernel
theorem dL_law_472 : decode cL_law 472 = .ok (.invokevirtual 42, 3) := by decide +kernel
theorem dL_law_475 : decode cL_law 475 = .ok (.aload 6, 2) := by decide +kernel
theorem dL_law_477 : decode cL_law 477 = .ok (.iconst 5, 1) := by decide +kernel
theorem dL_law_478 : decode cL_law 478 = .ok (.iaload, 1) := by decide +kernel
theorem dL_law_479 : decode cL_law 479 = .ok (.if_icmp .ne 7, 3) := by decide +kernel
theorem dL_law_482 : decode cL_law 482 = .ok (.iconst 1, 1) := by decide +kernel
theorem dL_law_483 : decode cL_law 483 = .ok (.goto 4, 3) := by decide +kernel
theorem dL_law_486 : decode cL_law 486 = .ok (.iconst 0, 1) := by decide +kernel
theorem dL_law_487 : decode cL_law 487 = .ok (.istore 7, 2) := by decide +kernel
theorem dL_law_489 : decode cL_law 489 = .ok (.aload 6, 2) := by decide +kernel
theorem dL_law_491 : decode cL_law 491 = .ok (.iconst 5, 1) := by decide +kernel
theorem dL_law_492 : decode cL_law 492 = .ok (.iload 12, 2) := by decide +kernel
theorem dL_law_494 : decode cL_law 494 = .ok (.iastore, 1) := by decide +kernel
theorem dL_law_495 : decode cL_law 495 = .ok (.goto 77, 3) := by decide +kernel
theorem dL_law_498 : decode cL_law 498 = .ok (.iload 9, 2) := by decide +kernel
theorem dL_law_500 : decode cL_law 500 = .ok (.bipush 23, 2) := by decide +kernel
theorem dL_law_502 : decode cL_law 502 = .ok (.if_icmp .ge 21, 3) := by decide +kernel
theorem dL_law_505 : decode cL_law 505 = .ok (.aload_n 1, 1) := by decide +kernel
theorem dL_law_506 : decode cL_law 506 = .ok (.aload_n 2, 1) := by decide +kernel
theorem dL_law_507 : decode cL_law 507 = .ok (.aload 4, 2) := by decide +kernel
theorem dL_law_509 : decode cL_law 509 = .ok (.aload 6, 2) := by decide +kernel
theorem dL_law_511 : decode cL_law 511 = .ok (.iload 10, 2) := by decide +kernel
theorem dL_law_513 : decode cL_law 513 = .ok (.iload 11, 2) := by decide +kernel
theorem dL_law_515 : decode cL_law 515 = .ok (.invokestatic 117, 3) := by decide +kernel
theorem dL_law_518 : decode cL_law 518 = .ok (.istore 7, 2) := by decide +kernel
theorem dL_law_520 : decode cL_law 520 = .ok (.goto 52, 3) := by decide +kernel
theorem dL_law_523 : decode cL_law 523 = .ok (.iload 10, 2) := by decide +kernel
theorem dL_law_525 : decode cL_law 525 = .ok (.iconst 4, 1) := by decide +kernel
theorem dL_law_526 : decode cL_law 526 = .ok (.irem, 1) := by decide +kernel
theorem dL_law_527 : decode cL_law 527 = .ok (.ifCond .ne 8, 3) := by decide +kernel
theorem dL_law_530 : decode cL_law 530 = .ok (.bipush 20, 2) := by decide +kernel
theorem dL_law_532 : decode cL_law 532 = .ok (.goto 9, 3) := by decide +kernel
theorem dL_law_535 : decode cL_law 535 = .ok (.iconst 1, 1) := by decide +kernel
theorem dL_law_536 : decode cL_law 536 = .ok (.iload 10, 2) := by decide +kernel
theorem dL_law_538 : decode cL_law 538 = .ok (.iconst 5, 1) := by decide +kernel
theorem dL_law_539 : decode cL_law 539 = .ok (.irem, 1) := by decide +kernel
theorem dL_law_540 : decode cL_law 540 = .ok (.iadd, 1) := by decide +kernel
theorem dL_law_541 : decode cL_law 541 = .ok (.istore 12, 2) := by decide +kernel
theorem dL_law_543 : decode cL_law 543 = .ok (.aload 6, 2) := by decide +kernel
theorem dL_law_545 : decode cL_law 545 = .ok (.iconst 2, 1) := by decide +kernel
theorem dL_law_546 : decode cL_law 546 = .ok (.dup2, 1) := by decide +kernel
theorem dL_law_547 : decode cL_law 547 = .ok (.iaload, 1) := by decide +kernel
theorem dL_law_548 : decode cL_law 548 = .ok (.iload 12, 2) := by decide +kernel
theorem dL_law_550 : decode cL_law 550 = .ok (.iadd, 1) := by decide +kernel
theorem dL_law_551 : decode cL_law 551 = .ok (.iastore, 1) := by decide +kernel
theorem dL_law_552 : decode cL_law 552 = .ok (.aload_n 1, 1) := by decide +kernel
theorem dL_law_553 : decode cL_law 553 = .ok (.iload 12, 2) := by decide +kernel
theorem dL_law_555 : decode cL_law 555 = .ok (.invokevirtual 46, 3) := by decide +kernel
theorem dL_law_558 : decode cL_law 558 = .ok (.aload 6, 2) := by decide +kernel
theorem dL_law_560 : decode cL_law 560 = .ok (.iconst 2, 1) := by decide +kernel
theorem dL_law_561 : decode cL_law 561 = .ok (.iaload, 1) := by decide +kernel
theorem dL_law_562 : decode cL_law 562 = .ok (.if_icmp .ne 7, 3) := by decide +kernel
theorem dL_law_565 : decode cL_law 565 = .ok (.iconst 1, 1) := by decide +kernel
theorem dL_law_566 : decode cL_law 566 = .ok (.goto 4, 3) := by decide +kernel
theorem dL_law_569 : decode cL_law 569 = .ok (.iconst 0, 1) := by decide +kernel
theorem dL_law_570 : decode cL_law 570 = .ok (.istore 7, 2) := by decide +kernel
theorem dL_law_572 : decode cL_law 572 = .ok (.iload 7, 2) := by decide +kernel
theorem dL_law_574 : decode cL_law 574 = .ok (.ifCond .eq 47, 3) := by decide +kernel
theorem dL_law_577 : decode cL_law 577 = .ok (.aload_n 1, 1) := by decide +kernel
theorem dL_law_578 : decode cL_law 578 = .ok (.aload_n 2, 1) := by decide +kernel
theorem dL_law_579 : decode cL_law 579 = .ok (.aload_n 3, 1) := by decide +kernel
theorem dL_law_580 : decode cL_law 580 = .ok (.aload 4, 2) := by decide +kernel
theorem dL_law_582 : decode cL_law 582 = .ok (.aload 5, 2) := by decide +kernel
theorem dL_law_584 : decode cL_law 584 = .ok (.aload 6, 2) := by decide +kernel
theorem dL_law_586 : decode cL_law 586 = .ok (.invokestatic 121, 3) := by decide +kernel
theorem dL_law_589 : decode cL_law 589 = .ok (.ifCond .eq 32, 3) := by decide +kernel
theorem dL_law_592 : decode cL_law 592 = .ok (.aload 6, 2) := by decide +kernel
theorem dL_law_594 : decode cL_law 594 = .ok (.iconst 3, 1) := by decide +kernel
theorem dL_law_595 : decode cL_law 595 = .ok (.iaload, 1) := by decide +kernel
theorem dL_law_596 : decode cL_law 596 = .ok (.ifCond .eq 21, 3) := by decide +kernel
theorem dL_law_599 : decode cL_law 599 = .ok (.aload_n 1, 1) := by decide +kernel
theorem dL_law_600 : decode cL_law 600 = .ok (.invokevirtual 103, 3) := by decide +kernel
theorem dL_law_603 : decode cL_law 603 = .ok (.ifCond .eq 14, 3) := by decide +kernel
theorem dL_law_606 : decode cL_law 606 = .ok (.aload_n 1, 1) := by decide +kernel
theorem dL_law_607 : decode cL_law 607 = .ok (.aload_n 2, 1) := by decide +kernel
theorem dL_law_608 : decode cL_law 608 = .ok (.aload_n 3, 1) := by decide +kernel
theorem dL_law_609 : decode cL_law 609 = .ok (.aload 5, 2) := by decide +kernel
theorem dL_law_611 : decode cL_law 611 = .ok (.invokestatic 125, 3) := by decide +kernel
theorem dL_law_614 : decode cL_law 614 = .ok (.ifCond .eq 7, 3) := by decide +kernel
theorem dL_law_617 : decode cL_law 617 = .ok (.iconst 1, 1) := by decide +kernel
theorem dL_law_618 : decode cL_law 618 = .ok (.goto 4, 3) := by decide +kernel
theorem dL_law_621 : decode cL_law 621 = .ok (.iconst 0, 1) := by decide +kernel
theorem dL_law_622 : decode cL_law 622 = .ok (.istore 7, 2) := by decide +kernel
theorem dL_law_624 : decode cL_law 624 = .ok (.iinc 8 1, 3) := by decide +kernel
theorem dL_law_627 : decode cL_law 627 = .ok (.goto (-359), 3) := by decide +kernel
theorem dL_law_630 : decode cL_law 630 = .ok (.iload 7, 2) := by decide +kernel
theorem dL_law_632 : decode cL_law 632 = .ok (.ireturn, 1) := by decide +kernel
end

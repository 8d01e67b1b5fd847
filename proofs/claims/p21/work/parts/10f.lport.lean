set_option maxHeartbeats 16000000 in
set_option maxRecDepth 100000 in
theorem mL_isPort (l : Launch) (hfl : l.stackTraces = false) (D : va_G) (cI cZ : ClassId) (A : Nat → Nat) (cs : St) (cw : St) (ct : St) (cu : St) (cl : St) (cb : St) (cp : St) (cg : St) (x6 : Int32) (x7 : Int32) (x8 : Int32) (sz : Nat) (res : Int32 × St × St × St × St × St × St × St) (hf : fL_isPort cs cw ct cl cb cp cg x6 x7 x8 = some res) : Met l yL_isPort wsL_isPort ({ frames := 11, cells := 1, slots := 6, locals := 212 }) (xP D (tysX cI cZ) [.ref (A 0), .ref (A 53), .ref (A 54), .ref (A 55), .ref (A 56), .ref (A 57), .int x6, .int x7, .int x8] (wLW cI cZ A cs cw ct cu cl cb cp cg) sz) (mQi D res.1 (wLW cI cZ A cs cw ct cu cl cb cp cg) (wLW cI cZ A (res.2.1) (res.2.2.1) (res.2.2.2.1) cu (res.2.2.2.2.1) (res.2.2.2.2.2.1) (res.2.2.2.2.2.2.1) (res.2.2.2.2.2.2.2)) sz) 1 6 (va_A (wLW cI cZ A cs cw ct cu cl cb cp cg) sz) := by
  refine mkL (cc := cL_isPort) (maxL := 14) (by decide +kernel) rfl rfl (Nat.le_of_ble_eq_true rfl) ?_
  intro p e s m args below meth c A0 Q S hK hG hX hZ hA hR
  obtain ⟨hx, hb, hml, hown, hts⟩ := id S
  have B726 : ∀ (cs : St) (cw : St) (ct : St) (cl : St) (cb : St) (cp : St) (cg : St) (y0 : Int32) (y1 : Int32), fL_isPort_J726 cs cw ct cl cb cp cg y0 y1 = some res → Bk p l e ({ frames := 11, cells := 1, slots := 6, locals := 212 }) s m args below meth c Q A0 D 14 1 6 (wLW cI cZ A cs cw ct cu cl cb cp cg) [] 726 [.int y0, .int y1] := by
    intro cs cw ct cl cb cp cg y0 y1 hf
    unfold fL_isPort_J726 at hf
    intro H locs hP hD hS ls hl
    refine lv_icmp_ne (tgt := 733) hx hb dL_isPort_726 (by decide) (fun c726 => ?_) (fun c726 => ?_)
    · have hf := if_f c726 hf
      refine lv_iconst (v := 0) hx hb dL_isPort_733 (by decide) ?_
      exact hR _ ls H locs _ _ _ _ (congrArg (fun q => q.1) (Option.some.inj hf)) (congrArg (fun q => (wLW cI cZ A (q.2.1) (q.2.2.1) (q.2.2.2.1) cu (q.2.2.2.2.1) (q.2.2.2.2.2.1) (q.2.2.2.2.2.2.1) (q.2.2.2.2.2.2.2))) (Option.some.inj hf)) (by decide) (by omega) (by omega) dL_isPort_734 hP hD hS
    · have hf := if_t c726 hf
      refine lv_iconst (v := 1) hx hb dL_isPort_729 (by decide) ?_
      refine lv_goto (tgt := 734) hx hb dL_isPort_730 (by decide) ?_
      exact hR _ ls H locs _ _ _ _ (congrArg (fun q => q.1) (Option.some.inj hf)) (congrArg (fun q => (wLW cI cZ A (q.2.1) (q.2.2.1) (q.2.2.2.1) cu (q.2.2.2.2.1) (q.2.2.2.2.2.1) (q.2.2.2.2.2.2.1) (q.2.2.2.2.2.2.2))) (Option.some.inj hf)) (by decide) (by omega) (by omega) dL_isPort_734 hP hD hS
  have B649 : ∀ (cs : St) (cw : St) (ct : St) (cl : St) (cb : St) (cp : St) (cg : St) (y0 : Int32) (y1 : Int32), fL_isPort_J649 cs cw ct cl cb cp cg y0 y1 = some res → Bk p l e ({ frames := 11, cells := 1, slots := 6, locals := 212 }) s m args below meth c Q A0 D 14 1 6 (wLW cI cZ A cs cw ct cu cl cb cp cg) [] 649 [.int y0, .int y1] := by
    intro cs cw ct cl cb cp cg y0 y1 hf
    unfold fL_isPort_J649 at hf
    intro H locs hP hD hS ls hl
    refine lv_icmp_ne (tgt := 656) hx hb dL_isPort_649 (by decide) (fun c649 => ?_) (fun c649 => ?_)
    · have hf := if_f c649 hf
      refine lv_iconst (v := 0) hx hb dL_isPort_656 (by decide) ?_
      exact hR _ ls H locs _ _ _ _ (congrArg (fun q => q.1) (Option.some.inj hf)) (congrArg (fun q => (wLW cI cZ A (q.2.1) (q.2.2.1) (q.2.2.2.1) cu (q.2.2.2.2.1) (q.2.2.2.2.2.1) (q.2.2.2.2.2.2.1) (q.2.2.2.2.2.2.2))) (Option.some.inj hf)) (by decide) (by omega) (by omega) dL_isPort_657 hP hD hS
    · have hf := if_t c649 hf
      refine lv_iconst (v := 1) hx hb dL_isPort_652 (by decide) ?_
      refine lv_goto (tgt := 657) hx hb dL_isPort_653 (by decide) ?_
      exact hR _ ls H locs _ _ _ _ (congrArg (fun q => q.1) (Option.some.inj hf)) (congrArg (fun q => (wLW cI cZ A (q.2.1) (q.2.2.1) (q.2.2.2.1) cu (q.2.2.2.2.1) (q.2.2.2.2.2.1) (q.2.2.2.2.2.2.1) (q.2.2.2.2.2.2.2))) (Option.some.inj hf)) (by decide) (by omega) (by omega) dL_isPort_657 hP hD hS
  have B549 : ∀ (cs : St) (cw : St) (ct : St) (cl : St) (cb : St) (cp : St) (cg : St) (x9 : Int32) (x11 : Int32) (y0 : Int32) (y1 : Int32), fL_isPort_J549 cs cw ct cl cb cp cg x9 x11 y0 y1 = some res → Bk p l e ({ frames := 11, cells := 1, slots := 6, locals := 212 }) s m args below meth c Q A0 D 14 0 0 (wLW cI cZ A cs cw ct cu cl cb cp cg) [(0, .ref (A 0)), (9, .int x9), (11, .int x11)] 549 [.int y0, .int y1, .ref (A 57)] := by
    intro cs cw ct cl cb cp cg x9 x11 y0 y1 hf
    unfold fL_isPort_J549 at hf
    intro H locs hP hD hS ls hl
    obtain ⟨c549, hf⟩ := ck_t hf
    refine st_i hx hb hK hP hD hS 57 0 (sLW_57 _ _ _ _ _ _ _ _ _ _ _ _ _) (gLW_57 _ _ _ _ _ _ _ _ _ _ _) rfl c549 dL_isPort_549 (fun H locs hP hD hS => ?_)
    refine lv_aload_n hx hb dL_isPort_550 rfl (lv_at hl 0 rfl) ?_
    refine lv_iconst (v := 5) hx hb dL_isPort_551 (by decide) ?_
    refine lv_iload hx hb dL_isPort_552 (lv_at hl 1 rfl) ?_
    refine lv_iconst (v := 5) hx hb dL_isPort_554 (by decide) ?_
    refine lv_idiv hx hb dL_isPort_555 (by decide) ?_
    refine lv_iload hx hb dL_isPort_556 (lv_at hl 1 rfl) ?_
    refine lv_iconst (v := 5) hx hb dL_isPort_558 (by decide) ?_
    refine lv_irem hx hb dL_isPort_559 (by decide) ?_
    refine lv_iload hx hb dL_isPort_560 (lv_at hl 2 rfl) ?_
    refine lv_iconst (v := 0) hx hb dL_isPort_562 (by decide) ?_
    refine lv_iconst (v := 0) hx hb dL_isPort_563 (by decide) ?_
    obtain ⟨q564, h564, hf⟩ := bd_t hf
    refine cl_i (vx_runSW (As := [.ref (A 0), .int 5, .int (x9 / 5), .int (x9 - x9 / 5 * 5), .int x11, .int 0, .int 0]) (rest := []) S (mL_does l hfl D cI cZ A cs cw ct cu cl cb cp (aS cg 4 y1 y0) 5 (x9 / 5) (x9 - x9 / 5 * 5) x11 0 0 H.size q564 h564) (vx_cwSW 7 hts gL_isPort_L_does rfl rfl rfl (by decide +kernel) ⟨Nat.le_of_ble_eq_true rfl, Nat.le_of_ble_eq_true rfl⟩) (xP_S (Cut.self _ []) hP hD hS hA hK hG hX hZ) rfl rfl hl.1 rfl (lv_room (Nat.le_of_ble_eq_true rfl)) dL_isPort_564 ⟨by show _ ≤ 1; omega, by show _ ≤ 6; omega⟩) (Cut.self _ _) hP hD hS hA (fun H locs hP hD hS => ?_)
    refine lv_istore (lv' := [(12, .int q564.1), (0, .ref (A 0)), (9, .int x9), (11, .int x11)]) hx hb dL_isPort_567 hl (by decide) rfl (fun ls hl => ?_)
    refine lv_iload hx hb dL_isPort_569 (lv_at hl 3 rfl) ?_
    refine lv_iconst (v := 3) hx hb dL_isPort_571 (by decide) ?_
    refine lv_icmp_ne (tgt := 591) hx hb dL_isPort_572 (by decide) (fun c572 => ?_) (fun c572 => ?_)
    · have hf := if_f c572 hf
      refine lv_iload hx hb dL_isPort_591 (lv_at hl 0 rfl) ?_
      refine lv_if_lt (tgt := 606) hx hb dL_isPort_593 (by decide) (fun c593 => ?_) (fun c593 => ?_)
      · have hf := if_t c593 hf
        refine lv_iconst (v := 0) hx hb dL_isPort_606 (by decide) ?_
        exact hR _ ls H locs _ _ _ _ (congrArg (fun q => q.1) (Option.some.inj hf)) (congrArg (fun q => (wLW cI cZ A (q.2.1) (q.2.2.1) (q.2.2.2.1) cu (q.2.2.2.2.1) (q.2.2.2.2.2.1) (q.2.2.2.2.2.2.1) (q.2.2.2.2.2.2.2))) (Option.some.inj hf)) (by decide) (by omega) (by omega) dL_isPort_607 hP hD hS
      · have hf := if_f c593 hf
        refine lv_iload hx hb dL_isPort_596 (lv_at hl 0 rfl) ?_
        refine lv_iconst (v := 3) hx hb dL_isPort_598 (by decide) ?_
        refine lv_icmp_ge (tgt := 606) hx hb dL_isPort_599 (by decide) (fun c599 => ?_) (fun c599 => ?_)
        · have hf := if_t c599 hf
          refine lv_iconst (v := 0) hx hb dL_isPort_606 (by decide) ?_
          exact hR _ ls H locs _ _ _ _ (congrArg (fun q => q.1) (Option.some.inj hf)) (congrArg (fun q => (wLW cI cZ A (q.2.1) (q.2.2.1) (q.2.2.2.1) cu (q.2.2.2.2.1) (q.2.2.2.2.2.1) (q.2.2.2.2.2.2.1) (q.2.2.2.2.2.2.2))) (Option.some.inj hf)) (by decide) (by omega) (by omega) dL_isPort_607 hP hD hS
        · have hf := if_f c599 hf
          refine lv_iconst (v := 1) hx hb dL_isPort_602 (by decide) ?_
          refine lv_goto (tgt := 607) hx hb dL_isPort_603 (by decide) ?_
          exact hR _ ls H locs _ _ _ _ (congrArg (fun q => q.1) (Option.some.inj hf)) (congrArg (fun q => (wLW cI cZ A (q.2.1) (q.2.2.1) (q.2.2.2.1) cu (q.2.2.2.2.1) (q.2.2.2.2.2.1) (q.2.2.2.2.2.2.1) (q.2.2.2.2.2.2.2))) (Option.some.inj hf)) (by decide) (by omega) (by omega) dL_isPort_607 hP hD hS
    · have hf := if_t c572 hf
      refine lv_iload hx hb dL_isPort_575 (lv_at hl 0 rfl) ?_
      refine lv_sipush (v := (-2000)) hx hb dL_isPort_577 (by decide) ?_
      refine lv_icmp_ne (tgt := 587) hx hb dL_isPort_580 (by decide) (fun c580 => ?_) (fun c580 => ?_)
      · have hf := if_f c580 hf
        refine lv_iconst (v := 0) hx hb dL_isPort_587 (by decide) ?_
        refine lv_goto (tgt := 607) hx hb dL_isPort_588 (by decide) ?_
        exact hR _ ls H locs _ _ _ _ (congrArg (fun q => q.1) (Option.some.inj hf)) (congrArg (fun q => (wLW cI cZ A (q.2.1) (q.2.2.1) (q.2.2.2.1) cu (q.2.2.2.2.1) (q.2.2.2.2.2.1) (q.2.2.2.2.2.2.1) (q.2.2.2.2.2.2.2))) (Option.some.inj hf)) (by decide) (by omega) (by omega) dL_isPort_607 hP hD hS
      · have hf := if_t c580 hf
        refine lv_iconst (v := 1) hx hb dL_isPort_583 (by decide) ?_
        refine lv_goto (tgt := 607) hx hb dL_isPort_584 (by decide) ?_
        exact hR _ ls H locs _ _ _ _ (congrArg (fun q => q.1) (Option.some.inj hf)) (congrArg (fun q => (wLW cI cZ A (q.2.1) (q.2.2.1) (q.2.2.2.1) cu (q.2.2.2.2.1) (q.2.2.2.2.2.1) (q.2.2.2.2.2.2.1) (q.2.2.2.2.2.2.2))) (Option.some.inj hf)) (by decide) (by omega) (by omega) dL_isPort_607 hP hD hS
  have B545 : ∀ (cs : St) (cw : St) (ct : St) (cl : St) (cb : St) (cp : St) (cg : St) (x9 : Int32) (x11 : Int32) (y0 : Int32), fL_isPort_J545 cs cw ct cl cb cp cg x9 x11 y0 = some res → Bk p l e ({ frames := 11, cells := 1, slots := 6, locals := 212 }) s m args below meth c Q A0 D 14 0 0 (wLW cI cZ A cs cw ct cu cl cb cp cg) [(0, .ref (A 0)), (5, .ref (A 57)), (9, .int x9), (11, .int x11)] 545 [.int y0, .ref (A 57)] := by
    intro cs cw ct cl cb cp cg x9 x11 y0 hf
    unfold fL_isPort_J545 at hf
    intro H locs hP hD hS ls hl
    refine lv_aload hx hb dL_isPort_545 (lv_at hl 1 rfl) ?_
    refine lv_iconst (v := 3) hx hb dL_isPort_547 (by decide) ?_
    obtain ⟨c548, hf⟩ := ck_t hf
    refine va_iald (f := cg 4) hx hb hK hP 57 0 (gLW_57 _ _ _ _ _ _ _ _ _ _ _) rfl (inb_in c548) dL_isPort_548 ?_
    refine W.widen (k := 0) (n := 0) (by omega) (by omega) ?_
    exact B549 _ _ _ _ _ _ _ _ _ _ _ hf H locs hP hD hS ls (lv_sub hl [0, 2, 3] rfl)
  have B358 : ∀ (cs : St) (cw : St) (ct : St) (cl : St) (cb : St) (cp : St) (cg : St) (x9 : Int32) (x12 : Int32), fL_isPort_J358 cs cw ct cl cb cp cg x9 x12 = some res → Bk p l e ({ frames := 11, cells := 1, slots := 6, locals := 212 }) s m args below meth c Q A0 D 14 0 0 (wLW cI cZ A cs cw ct cu cl cb cp cg) [(0, .ref (A 0)), (1, .ref (A 53)), (9, .int x9), (12, .int x12)] 358 [] := by
    intro cs cw ct cl cb cp cg x9 x12 hf
    unfold fL_isPort_J358 at hf
    intro H locs hP hD hS ls hl
    refine lv_aload_n hx hb dL_isPort_358 rfl (lv_at hl 1 rfl) ?_
    refine lv_iload hx hb dL_isPort_359 (lv_at hl 2 rfl) ?_
    refine lv_iconst (v := (-1)) hx hb dL_isPort_361 (by decide) ?_
    obtain ⟨c362, hf⟩ := ck_t hf
    refine st_i hx hb hK hP hD hS 53 0 (sLW_53 _ _ _ _ _ _ _ _ _ _ _ _ _) (gLW_53 _ _ _ _ _ _ _ _ _ _ _) rfl c362 dL_isPort_362 (fun H locs hP hD hS => ?_)
    refine lv_aload_n hx hb dL_isPort_363 rfl (lv_at hl 0 rfl) ?_
    refine lv_iconst (v := 1) hx hb dL_isPort_364 (by decide) ?_
    refine lv_iload hx hb dL_isPort_365 (lv_at hl 2 rfl) ?_
    refine lv_iconst (v := 5) hx hb dL_isPort_367 (by decide) ?_
    refine lv_idiv hx hb dL_isPort_368 (by decide) ?_
    refine lv_iload hx hb dL_isPort_369 (lv_at hl 2 rfl) ?_
    refine lv_iconst (v := 5) hx hb dL_isPort_371 (by decide) ?_
    refine lv_irem hx hb dL_isPort_372 (by decide) ?_
    refine lv_iconst (v := 0) hx hb dL_isPort_373 (by decide) ?_
    refine lv_iconst (v := 0) hx hb dL_isPort_374 (by decide) ?_
    refine lv_iconst (v := 0) hx hb dL_isPort_375 (by decide) ?_
    obtain ⟨q376, h376, hf⟩ := bd_t hf
    refine cl_i (vx_runSW (As := [.ref (A 0), .int 1, .int (x9 / 5), .int (x9 - x9 / 5 * 5), .int 0, .int 0, .int 0]) (rest := []) S (mL_does l hfl D cI cZ A cs cw ct cu cl cb cp (aS cg 0 x9 (-1)) 1 (x9 / 5) (x9 - x9 / 5 * 5) 0 0 0 H.size q376 h376) (vx_cwSW 7 hts gL_isPort_L_does rfl rfl rfl (by decide +kernel) ⟨Nat.le_of_ble_eq_true rfl, Nat.le_of_ble_eq_true rfl⟩) (xP_S (Cut.self _ []) hP hD hS hA hK hG hX hZ) rfl rfl hl.1 rfl (lv_room (Nat.le_of_ble_eq_true rfl)) dL_isPort_376 ⟨by show _ ≤ 1; omega, by show _ ≤ 6; omega⟩) (Cut.self _ _) hP hD hS hA (fun H locs hP hD hS => ?_)
    refine lv_iload hx hb dL_isPort_379 (lv_at hl 3 rfl) ?_
    refine lv_icmp_ne (tgt := 388) hx hb dL_isPort_381 (by decide) (fun c381 => ?_) (fun c381 => ?_)
    · have hf := if_f c381 hf
      refine lv_iconst (v := 0) hx hb dL_isPort_388 (by decide) ?_
      exact hR _ ls H locs _ _ _ _ (congrArg (fun q => q.1) (Option.some.inj hf)) (congrArg (fun q => (wLW cI cZ A (q.2.1) (q.2.2.1) (q.2.2.2.1) cu (q.2.2.2.2.1) (q.2.2.2.2.2.1) (q.2.2.2.2.2.2.1) (q.2.2.2.2.2.2.2))) (Option.some.inj hf)) (by decide) (by omega) (by omega) dL_isPort_389 hP hD hS
    · have hf := if_t c381 hf
      refine lv_iconst (v := 1) hx hb dL_isPort_384 (by decide) ?_
      refine lv_goto (tgt := 389) hx hb dL_isPort_385 (by decide) ?_
      exact hR _ ls H locs _ _ _ _ (congrArg (fun q => q.1) (Option.some.inj hf)) (congrArg (fun q => (wLW cI cZ A (q.2.1) (q.2.2.1) (q.2.2.2.1) cu (q.2.2.2.2.1) (q.2.2.2.2.2.1) (q.2.2.2.2.2.2.1) (q.2.2.2.2.2.2.2))) (Option.some.inj hf)) (by decide) (by omega) (by omega) dL_isPort_389 hP hD hS
  have B312 : ∀ (cs : St) (cw : St) (ct : St) (cl : St) (cb : St) (cp : St) (cg : St) (x9 : Int32) (x11 : Int32) (y0 : Int32), fL_isPort_J312 cs cw ct cl cb cp cg x9 x11 y0 = some res → Bk p l e ({ frames := 11, cells := 1, slots := 6, locals := 212 }) s m args below meth c Q A0 D 14 0 0 (wLW cI cZ A cs cw ct cu cl cb cp cg) [(0, .ref (A 0)), (1, .ref (A 53)), (3, .ref (A 55)), (5, .ref (A 57)), (9, .int x9), (11, .int x11)] 312 [.int y0] := by
    intro cs cw ct cl cb cp cg x9 x11 y0 hf
    unfold fL_isPort_J312 at hf
    intro H locs hP hD hS ls hl
    refine lv_istore (lv' := [(12, .int y0), (0, .ref (A 0)), (1, .ref (A 53)), (3, .ref (A 55)), (5, .ref (A 57)), (9, .int x9), (11, .int x11)]) hx hb dL_isPort_312 hl (by decide) rfl (fun ls hl => ?_)
    refine lv_iload hx hb dL_isPort_314 (lv_at hl 6 rfl) ?_
    refine lv_bipush (v := 100) hx hb dL_isPort_316 (by decide) ?_
    refine lv_icmp_lt (tgt := 340) hx hb dL_isPort_318 (by decide) (fun c318 => ?_) (fun c318 => ?_)
    · have hf := if_t c318 hf
      refine lv_iload hx hb dL_isPort_340 (lv_at hl 6 rfl) ?_
      refine lv_if_lt (tgt := 358) hx hb dL_isPort_342 (by decide) (fun c342 => ?_) (fun c342 => ?_)
      · have hf := if_t c342 hf
        refine W.widen (k := 0) (n := 0) (by omega) (by omega) ?_
        exact B358 _ _ _ _ _ _ _ _ _ hf H locs hP hD hS ls (lv_sub hl [1, 2, 5, 0] rfl)
      · have hf := if_f c342 hf
        refine lv_aload_n hx hb dL_isPort_345 rfl (lv_at hl 2 rfl) ?_
        refine lv_iload hx hb dL_isPort_346 (lv_at hl 6 rfl) ?_
        refine lv_iconst (v := (-1)) hx hb dL_isPort_348 (by decide) ?_
        obtain ⟨c349, hf⟩ := ck_t hf
        refine st_i hx hb hK hP hD hS 53 0 (sLW_53 _ _ _ _ _ _ _ _ _ _ _ _ _) (gLW_53 _ _ _ _ _ _ _ _ _ _ _) rfl c349 dL_isPort_349 (fun H locs hP hD hS => ?_)
        refine lv_aload hx hb dL_isPort_350 (lv_at hl 4 rfl) ?_
        refine lv_iconst (v := 0) hx hb dL_isPort_352 (by decide) ?_
        refine lv_dup2_11 hx hb dL_isPort_353 rfl rfl ?_
        obtain ⟨c354, hf⟩ := ck_t hf
        refine va_iald (f := cg 4) hx hb hK hP 57 0 (gLW_57 _ _ _ _ _ _ _ _ _ _ _) rfl (inb_in c354) dL_isPort_354 ?_
        refine lv_iconst (v := 1) hx hb dL_isPort_355 (by decide) ?_
        refine lv_isub hx hb dL_isPort_356 ?_
        obtain ⟨c357, hf⟩ := ck_t hf
        refine st_i hx hb hK hP hD hS 57 0 (sLW_57 _ _ _ _ _ _ _ _ _ _ _ _ _) (gLW_57 _ _ _ _ _ _ _ _ _ _ _) rfl c357 dL_isPort_357 (fun H locs hP hD hS => ?_)
        refine W.widen (k := 0) (n := 0) (by omega) (by omega) ?_
        exact B358 _ _ _ _ _ _ _ _ _ hf H locs hP hD hS ls (lv_sub hl [1, 2, 5, 0] rfl)
    · have hf := if_f c318 hf
      refine lv_aload_n hx hb dL_isPort_321 rfl (lv_at hl 3 rfl) ?_
      refine lv_iload hx hb dL_isPort_322 (lv_at hl 6 rfl) ?_
      refine lv_bipush (v := 100) hx hb dL_isPort_324 (by decide) ?_
      refine lv_isub hx hb dL_isPort_326 ?_
      refine lv_iconst (v := (-1)) hx hb dL_isPort_327 (by decide) ?_
      obtain ⟨c328, hf⟩ := ck_t hf
      refine st_i hx hb hK hP hD hS 55 0 (sLW_55 _ _ _ _ _ _ _ _ _ _ _ _ _) (gLW_55 _ _ _ _ _ _ _ _ _ _ _) rfl c328 dL_isPort_328 (fun H locs hP hD hS => ?_)
      refine lv_aload hx hb dL_isPort_329 (lv_at hl 4 rfl) ?_
      refine lv_iconst (v := 1) hx hb dL_isPort_331 (by decide) ?_
      refine lv_dup2_11 hx hb dL_isPort_332 rfl rfl ?_
      obtain ⟨c333, hf⟩ := ck_t hf
      refine va_iald (f := cg 4) hx hb hK hP 57 0 (gLW_57 _ _ _ _ _ _ _ _ _ _ _) rfl (inb_in c333) dL_isPort_333 ?_
      refine lv_iconst (v := 1) hx hb dL_isPort_334 (by decide) ?_
      refine lv_isub hx hb dL_isPort_335 ?_
      obtain ⟨c336, hf⟩ := ck_t hf
      refine st_i hx hb hK hP hD hS 57 0 (sLW_57 _ _ _ _ _ _ _ _ _ _ _ _ _) (gLW_57 _ _ _ _ _ _ _ _ _ _ _) rfl c336 dL_isPort_336 (fun H locs hP hD hS => ?_)
      refine lv_goto (tgt := 358) hx hb dL_isPort_337 (by decide) ?_
      refine W.widen (k := 0) (n := 0) (by omega) (by omega) ?_
      exact B358 _ _ _ _ _ _ _ _ _ hf H locs hP hD hS ls (lv_sub hl [1, 2, 5, 0] rfl)
  have B264 : ∀ (cs : St) (cw : St) (ct : St) (cl : St) (cb : St) (cp : St) (cg : St) (y0 : Int32) (y1 : Int32), fL_isPort_J264 cs cw ct cl cb cp cg y0 y1 = some res → Bk p l e ({ frames := 11, cells := 1, slots := 6, locals := 212 }) s m args below meth c Q A0 D 14 1 6 (wLW cI cZ A cs cw ct cu cl cb cp cg) [] 264 [.int y0, .int y1] := by
    intro cs cw ct cl cb cp cg y0 y1 hf
    unfold fL_isPort_J264 at hf
    intro H locs hP hD hS ls hl
    refine lv_icmp_ne (tgt := 271) hx hb dL_isPort_264 (by decide) (fun c264 => ?_) (fun c264 => ?_)
    · have hf := if_f c264 hf
      refine lv_iconst (v := 0) hx hb dL_isPort_271 (by decide) ?_
      exact hR _ ls H locs _ _ _ _ (congrArg (fun q => q.1) (Option.some.inj hf)) (congrArg (fun q => (wLW cI cZ A (q.2.1) (q.2.2.1) (q.2.2.2.1) cu (q.2.2.2.2.1) (q.2.2.2.2.2.1) (q.2.2.2.2.2.2.1) (q.2.2.2.2.2.2.2))) (Option.some.inj hf)) (by decide) (by omega) (by omega) dL_isPort_272 hP hD hS
    · have hf := if_t c264 hf
      refine lv_iconst (v := 1) hx hb dL_isPort_267 (by decide) ?_
      refine lv_goto (tgt := 272) hx hb dL_isPort_268 (by decide) ?_
      exact hR _ ls H locs _ _ _ _ (congrArg (fun q => q.1) (Option.some.inj hf)) (congrArg (fun q => (wLW cI cZ A (q.2.1) (q.2.2.1) (q.2.2.2.1) cu (q.2.2.2.2.1) (q.2.2.2.2.2.1) (q.2.2.2.2.2.2.1) (q.2.2.2.2.2.2.2))) (Option.some.inj hf)) (by decide) (by omega) (by omega) dL_isPort_272 hP hD hS
  have B232 : ∀ (cs : St) (cw : St) (ct : St) (cl : St) (cb : St) (cp : St) (cg : St) (x9 : Int32) (x11 : Int32) (x12 : Int32), fL_isPort_J232 cs cw ct cl cb cp cg x9 x11 x12 = some res → Bk p l e ({ frames := 11, cells := 1, slots := 6, locals := 212 }) s m args below meth c Q A0 D 14 0 0 (wLW cI cZ A cs cw ct cu cl cb cp cg) [(0, .ref (A 0)), (5, .ref (A 57)), (9, .int x9), (11, .int x11), (12, .int x12)] 232 [] := by
    intro cs cw ct cl cb cp cg x9 x11 x12 hf
    unfold fL_isPort_J232 at hf
    intro H locs hP hD hS ls hl
    refine lv_aload_n hx hb dL_isPort_232 rfl (lv_at hl 0 rfl) ?_
    refine lv_iconst (v := 2) hx hb dL_isPort_233 (by decide) ?_
    refine lv_iload hx hb dL_isPort_234 (lv_at hl 2 rfl) ?_
    refine lv_iconst (v := 5) hx hb dL_isPort_236 (by decide) ?_
    refine lv_idiv hx hb dL_isPort_237 (by decide) ?_
    refine lv_iload hx hb dL_isPort_238 (lv_at hl 2 rfl) ?_
    refine lv_iconst (v := 5) hx hb dL_isPort_240 (by decide) ?_
    refine lv_irem hx hb dL_isPort_241 (by decide) ?_
    refine lv_iload hx hb dL_isPort_242 (lv_at hl 3 rfl) ?_
    refine lv_iconst (v := 0) hx hb dL_isPort_244 (by decide) ?_
    refine lv_iconst (v := 0) hx hb dL_isPort_245 (by decide) ?_
    obtain ⟨q246, h246, hf⟩ := bd_t hf
    refine cl_i (vx_runSW (As := [.ref (A 0), .int 2, .int (x9 / 5), .int (x9 - x9 / 5 * 5), .int x11, .int 0, .int 0]) (rest := []) S (mL_does l hfl D cI cZ A cs cw ct cu cl cb cp cg 2 (x9 / 5) (x9 - x9 / 5 * 5) x11 0 0 H.size q246 h246) (vx_cwSW 7 hts gL_isPort_L_does rfl rfl rfl (by decide +kernel) ⟨Nat.le_of_ble_eq_true rfl, Nat.le_of_ble_eq_true rfl⟩) (xP_S (Cut.self _ []) hP hD hS hA hK hG hX hZ) rfl rfl hl.1 rfl (lv_room (Nat.le_of_ble_eq_true rfl)) dL_isPort_246 ⟨by show _ ≤ 1; omega, by show _ ≤ 6; omega⟩) (Cut.self _ _) hP hD hS hA (fun H locs hP hD hS => ?_)
    refine lv_iload hx hb dL_isPort_249 (lv_at hl 4 rfl) ?_
    refine lv_if_eq (tgt := 261) hx hb dL_isPort_251 (by decide) (fun c251 => ?_) (fun c251 => ?_)
    · have hf := if_t c251 hf
      refine lv_sipush (v := (-1000)) hx hb dL_isPort_261 (by decide) ?_
      refine W.widen (k := 1) (n := 6) (by omega) (by omega) ?_
      exact B264 _ _ _ _ _ _ _ _ _ hf H locs hP hD hS ls (lv_sub hl [] rfl)
    · have hf := if_f c251 hf
      refine lv_aload hx hb dL_isPort_254 (lv_at hl 1 rfl) ?_
      refine lv_iconst (v := 1) hx hb dL_isPort_256 (by decide) ?_
      obtain ⟨c257, hf⟩ := ck_t hf
      refine va_iald (f := cg 4) hx hb hK hP 57 0 (gLW_57 _ _ _ _ _ _ _ _ _ _ _) rfl (inb_in c257) dL_isPort_257 ?_
      refine lv_goto (tgt := 264) hx hb dL_isPort_258 (by decide) ?_
      refine W.widen (k := 1) (n := 6) (by omega) (by omega) ?_
      exact B264 _ _ _ _ _ _ _ _ _ hf H locs hP hD hS ls (lv_sub hl [] rfl)
  have B202 : ∀ (cs : St) (cw : St) (ct : St) (cl : St) (cb : St) (cp : St) (cg : St) (x9 : Int32) (x11 : Int32) (y0 : Int32), fL_isPort_J202 cs cw ct cl cb cp cg x9 x11 y0 = some res → Bk p l e ({ frames := 11, cells := 1, slots := 6, locals := 212 }) s m args below meth c Q A0 D 14 0 0 (wLW cI cZ A cs cw ct cu cl cb cp cg) [(0, .ref (A 0)), (1, .ref (A 53)), (3, .ref (A 55)), (5, .ref (A 57)), (9, .int x9), (11, .int x11)] 202 [.int y0] := by
    intro cs cw ct cl cb cp cg x9 x11 y0 hf
    unfold fL_isPort_J202 at hf
    intro H locs hP hD hS ls hl
    refine lv_istore (lv' := [(12, .int y0), (0, .ref (A 0)), (1, .ref (A 53)), (3, .ref (A 55)), (5, .ref (A 57)), (9, .int x9), (11, .int x11)]) hx hb dL_isPort_202 hl (by decide) rfl (fun ls hl => ?_)
    refine lv_iload hx hb dL_isPort_204 (lv_at hl 0 rfl) ?_
    refine lv_if_eq (tgt := 232) hx hb dL_isPort_206 (by decide) (fun c206 => ?_) (fun c206 => ?_)
    · have hf := if_t c206 hf
      refine W.widen (k := 0) (n := 0) (by omega) (by omega) ?_
      exact B232 _ _ _ _ _ _ _ _ _ _ hf H locs hP hD hS ls (lv_sub hl [1, 4, 5, 6, 0] rfl)
    · have hf := if_f c206 hf
      refine lv_aload_n hx hb dL_isPort_209 rfl (lv_at hl 2 rfl) ?_
      refine lv_iload hx hb dL_isPort_210 (lv_at hl 5 rfl) ?_
      refine lv_bipush (v := 100) hx hb dL_isPort_212 (by decide) ?_
      refine lv_iload hx hb dL_isPort_214 (lv_at hl 6 rfl) ?_
      refine lv_iadd hx hb dL_isPort_216 ?_
      obtain ⟨c217, hf⟩ := ck_t hf
      refine st_i hx hb hK hP hD hS 53 0 (sLW_53 _ _ _ _ _ _ _ _ _ _ _ _ _) (gLW_53 _ _ _ _ _ _ _ _ _ _ _) rfl c217 dL_isPort_217 (fun H locs hP hD hS => ?_)
      refine lv_aload_n hx hb dL_isPort_218 rfl (lv_at hl 3 rfl) ?_
      refine lv_iload hx hb dL_isPort_219 (lv_at hl 6 rfl) ?_
      refine lv_iload hx hb dL_isPort_221 (lv_at hl 5 rfl) ?_
      obtain ⟨c223, hf⟩ := ck_t hf
      refine st_i hx hb hK hP hD hS 55 0 (sLW_55 _ _ _ _ _ _ _ _ _ _ _ _ _) (gLW_55 _ _ _ _ _ _ _ _ _ _ _) rfl c223 dL_isPort_223 (fun H locs hP hD hS => ?_)
      refine lv_aload hx hb dL_isPort_224 (lv_at hl 4 rfl) ?_
      refine lv_iconst (v := 1) hx hb dL_isPort_226 (by decide) ?_
      refine lv_dup2_11 hx hb dL_isPort_227 rfl rfl ?_
      obtain ⟨c228, hf⟩ := ck_t hf
      refine va_iald (f := cg 4) hx hb hK hP 57 0 (gLW_57 _ _ _ _ _ _ _ _ _ _ _) rfl (inb_in c228) dL_isPort_228 ?_
      refine lv_iconst (v := 1) hx hb dL_isPort_229 (by decide) ?_
      refine lv_iadd hx hb dL_isPort_230 ?_
      obtain ⟨c231, hf⟩ := ck_t hf
      refine st_i hx hb hK hP hD hS 57 0 (sLW_57 _ _ _ _ _ _ _ _ _ _ _ _ _) (gLW_57 _ _ _ _ _ _ _ _ _ _ _) rfl c231 dL_isPort_231 (fun H locs hP hD hS => ?_)
      refine W.widen (k := 0) (n := 0) (by omega) (by omega) ?_
      exact B232 _ _ _ _ _ _ _ _ _ _ hf H locs hP hD hS ls (lv_sub hl [1, 4, 5, 6, 0] rfl)
  have B201 : ∀ (cs : St) (cw : St) (ct : St) (cl : St) (cb : St) (cp : St) (cg : St) (x9 : Int32) (x11 : Int32), fL_isPort_J201 cs cw ct cl cb cp cg x9 x11 = some res → Bk p l e ({ frames := 11, cells := 1, slots := 6, locals := 212 }) s m args below meth c Q A0 D 14 0 0 (wLW cI cZ A cs cw ct cu cl cb cp cg) [(0, .ref (A 0)), (1, .ref (A 53)), (3, .ref (A 55)), (5, .ref (A 57)), (9, .int x9), (11, .int x11)] 201 [] := by
    intro cs cw ct cl cb cp cg x9 x11 hf
    unfold fL_isPort_J201 at hf
    intro H locs hP hD hS ls hl
    refine lv_iconst (v := 0) hx hb dL_isPort_201 (by decide) ?_
    refine W.widen (k := 0) (n := 0) (by omega) (by omega) ?_
    exact B202 _ _ _ _ _ _ _ _ _ _ hf H locs hP hD hS ls (lv_sub hl [0, 1, 2, 3, 4, 5] rfl)
  have B161 : ∀ (cs : St) (cw : St) (ct : St) (cl : St) (cb : St) (cp : St) (cg : St) (y0 : Int32) (y1 : Int32), fL_isPort_J161 cs cw ct cl cb cp cg y0 y1 = some res → Bk p l e ({ frames := 11, cells := 1, slots := 6, locals := 212 }) s m args below meth c Q A0 D 14 1 6 (wLW cI cZ A cs cw ct cu cl cb cp cg) [] 161 [.int y0, .int y1] := by
    intro cs cw ct cl cb cp cg y0 y1 hf
    unfold fL_isPort_J161 at hf
    intro H locs hP hD hS ls hl
    refine lv_icmp_ne (tgt := 168) hx hb dL_isPort_161 (by decide) (fun c161 => ?_) (fun c161 => ?_)
    · have hf := if_f c161 hf
      refine lv_iconst (v := 0) hx hb dL_isPort_168 (by decide) ?_
      exact hR _ ls H locs _ _ _ _ (congrArg (fun q => q.1) (Option.some.inj hf)) (congrArg (fun q => (wLW cI cZ A (q.2.1) (q.2.2.1) (q.2.2.2.1) cu (q.2.2.2.2.1) (q.2.2.2.2.2.1) (q.2.2.2.2.2.2.1) (q.2.2.2.2.2.2.2))) (Option.some.inj hf)) (by decide) (by omega) (by omega) dL_isPort_169 hP hD hS
    · have hf := if_t c161 hf
      refine lv_iconst (v := 1) hx hb dL_isPort_164 (by decide) ?_
      refine lv_goto (tgt := 169) hx hb dL_isPort_165 (by decide) ?_
      exact hR _ ls H locs _ _ _ _ (congrArg (fun q => q.1) (Option.some.inj hf)) (congrArg (fun q => (wLW cI cZ A (q.2.1) (q.2.2.1) (q.2.2.2.1) cu (q.2.2.2.2.1) (q.2.2.2.2.2.1) (q.2.2.2.2.2.2.1) (q.2.2.2.2.2.2.2))) (Option.some.inj hf)) (by decide) (by omega) (by omega) dL_isPort_169 hP hD hS
  have B112 : ∀ (cs : St) (cw : St) (ct : St) (cl : St) (cb : St) (cp : St) (cg : St) (x9 : Int32) (x10 : Int32) (x11 : Int32) (x12 : Int32) (x13 : Int32), fL_isPort_J112 cs cw ct cl cb cp cg x9 x10 x11 x12 x13 = some res → Bk p l e ({ frames := 11, cells := 1, slots := 6, locals := 212 }) s m args below meth c Q A0 D 14 0 0 (wLW cI cZ A cs cw ct cu cl cb cp cg) [(0, .ref (A 0)), (5, .ref (A 57)), (9, .int x9), (10, .int x10), (11, .int x11), (12, .int x12), (13, .int x13)] 112 [] := by
    intro cs cw ct cl cb cp cg x9 x10 x11 x12 x13 hf
    unfold fL_isPort_J112 at hf
    intro H locs hP hD hS ls hl
    refine lv_aload_n hx hb dL_isPort_112 rfl (lv_at hl 0 rfl) ?_
    refine lv_iconst (v := 0) hx hb dL_isPort_113 (by decide) ?_
    refine lv_iload hx hb dL_isPort_114 (lv_at hl 2 rfl) ?_
    refine lv_iconst (v := 5) hx hb dL_isPort_116 (by decide) ?_
    refine lv_idiv hx hb dL_isPort_117 (by decide) ?_
    refine lv_iload hx hb dL_isPort_118 (lv_at hl 2 rfl) ?_
    refine lv_iconst (v := 5) hx hb dL_isPort_120 (by decide) ?_
    refine lv_irem hx hb dL_isPort_121 (by decide) ?_
    refine lv_iload hx hb dL_isPort_122 (lv_at hl 3 rfl) ?_
    refine lv_iconst (v := 5) hx hb dL_isPort_124 (by decide) ?_
    refine lv_idiv hx hb dL_isPort_125 (by decide) ?_
    refine lv_iload hx hb dL_isPort_126 (lv_at hl 3 rfl) ?_
    refine lv_iconst (v := 5) hx hb dL_isPort_128 (by decide) ?_
    refine lv_irem hx hb dL_isPort_129 (by decide) ?_
    refine lv_iload hx hb dL_isPort_130 (lv_at hl 4 rfl) ?_
    obtain ⟨q132, h132, hf⟩ := bd_t hf
    refine cl_i (vx_runSW (As := [.ref (A 0), .int 0, .int (x9 / 5), .int (x9 - x9 / 5 * 5), .int (x10 / 5), .int (x10 - x10 / 5 * 5), .int x11]) (rest := []) S (mL_does l hfl D cI cZ A cs cw ct cu cl cb cp cg 0 (x9 / 5) (x9 - x9 / 5 * 5) (x10 / 5) (x10 - x10 / 5 * 5) x11 H.size q132 h132) (vx_cwSW 7 hts gL_isPort_L_does rfl rfl rfl (by decide +kernel) ⟨Nat.le_of_ble_eq_true rfl, Nat.le_of_ble_eq_true rfl⟩) (xP_S (Cut.self _ []) hP hD hS hA hK hG hX hZ) rfl rfl hl.1 rfl (lv_room (Nat.le_of_ble_eq_true rfl)) dL_isPort_132 ⟨by show _ ≤ 1; omega, by show _ ≤ 6; omega⟩) (Cut.self _ _) hP hD hS hA (fun H locs hP hD hS => ?_)
    refine lv_iload hx hb dL_isPort_135 (lv_at hl 5 rfl) ?_
    refine lv_if_ne (tgt := 146) hx hb dL_isPort_137 (by decide) (fun c137 => ?_) (fun c137 => ?_)
    · have hf := if_f c137 hf
      refine lv_iload hx hb dL_isPort_146 (lv_at hl 6 rfl) ?_
      refine lv_if_eq (tgt := 158) hx hb dL_isPort_148 (by decide) (fun c148 => ?_) (fun c148 => ?_)
      · have hf := if_t c148 hf
        refine lv_sipush (v := (-1000)) hx hb dL_isPort_158 (by decide) ?_
        refine W.widen (k := 1) (n := 6) (by omega) (by omega) ?_
        exact B161 _ _ _ _ _ _ _ _ _ hf H locs hP hD hS ls (lv_sub hl [] rfl)
      · have hf := if_f c148 hf
        refine lv_aload hx hb dL_isPort_151 (lv_at hl 1 rfl) ?_
        refine lv_iconst (v := 0) hx hb dL_isPort_153 (by decide) ?_
        obtain ⟨c154, hf⟩ := ck_t hf
        refine va_iald (f := cg 4) hx hb hK hP 57 0 (gLW_57 _ _ _ _ _ _ _ _ _ _ _) rfl (inb_in c154) dL_isPort_154 ?_
        refine lv_goto (tgt := 161) hx hb dL_isPort_155 (by decide) ?_
        refine W.widen (k := 1) (n := 6) (by omega) (by omega) ?_
        exact B161 _ _ _ _ _ _ _ _ _ hf H locs hP hD hS ls (lv_sub hl [] rfl)
    · have hf := if_t c137 hf
      refine lv_sipush (v := (-2000)) hx hb dL_isPort_140 (by decide) ?_
      refine lv_goto (tgt := 161) hx hb dL_isPort_143 (by decide) ?_
      refine W.widen (k := 1) (n := 6) (by omega) (by omega) ?_
      exact B161 _ _ _ _ _ _ _ _ _ hf H locs hP hD hS ls (lv_sub hl [] rfl)
  have B73 : ∀ (cs : St) (cw : St) (ct : St) (cl : St) (cb : St) (cp : St) (cg : St) (x9 : Int32) (x10 : Int32) (x11 : Int32) (x12 : Int32) (y0 : Int32), fL_isPort_J73 cs cw ct cl cb cp cg x9 x10 x11 x12 y0 = some res → Bk p l e ({ frames := 11, cells := 1, slots := 6, locals := 212 }) s m args below meth c Q A0 D 14 0 0 (wLW cI cZ A cs cw ct cu cl cb cp cg) [(0, .ref (A 0)), (1, .ref (A 53)), (2, .ref (A 54)), (5, .ref (A 57)), (9, .int x9), (10, .int x10), (11, .int x11), (12, .int x12)] 73 [.int y0] := by
    intro cs cw ct cl cb cp cg x9 x10 x11 x12 y0 hf
    unfold fL_isPort_J73 at hf
    intro H locs hP hD hS ls hl
    refine lv_istore (lv' := [(13, .int y0), (0, .ref (A 0)), (1, .ref (A 53)), (2, .ref (A 54)), (5, .ref (A 57)), (9, .int x9), (10, .int x10), (11, .int x11), (12, .int x12)]) hx hb dL_isPort_73 hl (by decide) rfl (fun ls hl => ?_)
    refine lv_iload hx hb dL_isPort_75 (lv_at hl 0 rfl) ?_
    refine lv_if_eq (tgt := 112) hx hb dL_isPort_77 (by decide) (fun c77 => ?_) (fun c77 => ?_)
    · have hf := if_t c77 hf
      refine W.widen (k := 0) (n := 0) (by omega) (by omega) ?_
      exact B112 _ _ _ _ _ _ _ _ _ _ _ _ hf H locs hP hD hS ls (lv_sub hl [1, 4, 5, 6, 7, 8, 0] rfl)
    · have hf := if_f c77 hf
      refine lv_aload_n hx hb dL_isPort_80 rfl (lv_at hl 2 rfl) ?_
      refine lv_iload hx hb dL_isPort_81 (lv_at hl 5 rfl) ?_
      refine lv_iload hx hb dL_isPort_83 (lv_at hl 6 rfl) ?_
      obtain ⟨c85, hf⟩ := ck_t hf
      refine st_i hx hb hK hP hD hS 53 0 (sLW_53 _ _ _ _ _ _ _ _ _ _ _ _ _) (gLW_53 _ _ _ _ _ _ _ _ _ _ _) rfl c85 dL_isPort_85 (fun H locs hP hD hS => ?_)
      refine lv_aload_n hx hb dL_isPort_86 rfl (lv_at hl 2 rfl) ?_
      refine lv_iload hx hb dL_isPort_87 (lv_at hl 6 rfl) ?_
      refine lv_iload hx hb dL_isPort_89 (lv_at hl 5 rfl) ?_
      obtain ⟨c91, hf⟩ := ck_t hf
      refine st_i hx hb hK hP hD hS 53 0 (sLW_53 _ _ _ _ _ _ _ _ _ _ _ _ _) (gLW_53 _ _ _ _ _ _ _ _ _ _ _) rfl c91 dL_isPort_91 (fun H locs hP hD hS => ?_)
      refine lv_aload_n hx hb dL_isPort_92 rfl (lv_at hl 3 rfl) ?_
      refine lv_iload hx hb dL_isPort_93 (lv_at hl 5 rfl) ?_
      refine lv_iload hx hb dL_isPort_95 (lv_at hl 7 rfl) ?_
      obtain ⟨c97, hf⟩ := ck_t hf
      refine st_i hx hb hK hP hD hS 54 0 (sLW_54 _ _ _ _ _ _ _ _ _ _ _ _ _) (gLW_54 _ _ _ _ _ _ _ _ _ _ _) rfl c97 dL_isPort_97 (fun H locs hP hD hS => ?_)
      refine lv_aload_n hx hb dL_isPort_98 rfl (lv_at hl 3 rfl) ?_
      refine lv_iload hx hb dL_isPort_99 (lv_at hl 6 rfl) ?_
      refine lv_iload hx hb dL_isPort_101 (lv_at hl 7 rfl) ?_
      obtain ⟨c103, hf⟩ := ck_t hf
      refine st_i hx hb hK hP hD hS 54 0 (sLW_54 _ _ _ _ _ _ _ _ _ _ _ _ _) (gLW_54 _ _ _ _ _ _ _ _ _ _ _) rfl c103 dL_isPort_103 (fun H locs hP hD hS => ?_)
      refine lv_aload hx hb dL_isPort_104 (lv_at hl 4 rfl) ?_
      refine lv_iconst (v := 0) hx hb dL_isPort_106 (by decide) ?_
      refine lv_dup2_11 hx hb dL_isPort_107 rfl rfl ?_
      obtain ⟨c108, hf⟩ := ck_t hf
      refine va_iald (f := cg 4) hx hb hK hP 57 0 (gLW_57 _ _ _ _ _ _ _ _ _ _ _) rfl (inb_in c108) dL_isPort_108 ?_
      refine lv_iconst (v := 1) hx hb dL_isPort_109 (by decide) ?_
      refine lv_iadd hx hb dL_isPort_110 ?_
      obtain ⟨c111, hf⟩ := ck_t hf
      refine st_i hx hb hK hP hD hS 57 0 (sLW_57 _ _ _ _ _ _ _ _ _ _ _ _ _) (gLW_57 _ _ _ _ _ _ _ _ _ _ _) rfl c111 dL_isPort_111 (fun H locs hP hD hS => ?_)
      refine W.widen (k := 0) (n := 0) (by omega) (by omega) ?_
      exact B112 _ _ _ _ _ _ _ _ _ _ _ _ hf H locs hP hD hS ls (lv_sub hl [1, 4, 5, 6, 7, 8, 0] rfl)
  have B72 : ∀ (cs : St) (cw : St) (ct : St) (cl : St) (cb : St) (cp : St) (cg : St) (x9 : Int32) (x10 : Int32) (x11 : Int32) (x12 : Int32), fL_isPort_J72 cs cw ct cl cb cp cg x9 x10 x11 x12 = some res → Bk p l e ({ frames := 11, cells := 1, slots := 6, locals := 212 }) s m args below meth c Q A0 D 14 0 0 (wLW cI cZ A cs cw ct cu cl cb cp cg) [(0, .ref (A 0)), (1, .ref (A 53)), (2, .ref (A 54)), (5, .ref (A 57)), (9, .int x9), (10, .int x10), (11, .int x11), (12, .int x12)] 72 [] := by
    intro cs cw ct cl cb cp cg x9 x10 x11 x12 hf
    unfold fL_isPort_J72 at hf
    intro H locs hP hD hS ls hl
    refine lv_iconst (v := 0) hx hb dL_isPort_72 (by decide) ?_
    refine W.widen (k := 0) (n := 0) (by omega) (by omega) ?_
    exact B73 _ _ _ _ _ _ _ _ _ _ _ _ hf H locs hP hD hS ls (lv_sub hl [0, 1, 2, 3, 4, 5, 6, 7] rfl)
  have B47 : ∀ (cs : St) (cw : St) (ct : St) (cl : St) (cb : St) (cp : St) (cg : St) (x9 : Int32) (x10 : Int32) (x11 : Int32) (y0 : Int32), fL_isPort_J47 cs cw ct cl cb cp cg x9 x10 x11 y0 = some res → Bk p l e ({ frames := 11, cells := 1, slots := 6, locals := 212 }) s m args below meth c Q A0 D 14 0 0 (wLW cI cZ A cs cw ct cu cl cb cp cg) [(0, .ref (A 0)), (1, .ref (A 53)), (2, .ref (A 54)), (5, .ref (A 57)), (9, .int x9), (10, .int x10), (11, .int x11)] 47 [.int y0] := by
    intro cs cw ct cl cb cp cg x9 x10 x11 y0 hf
    unfold fL_isPort_J47 at hf
    intro H locs hP hD hS ls hl
    refine lv_istore (lv' := [(12, .int y0), (0, .ref (A 0)), (1, .ref (A 53)), (2, .ref (A 54)), (5, .ref (A 57)), (9, .int x9), (10, .int x10), (11, .int x11)]) hx hb dL_isPort_47 hl (by decide) rfl (fun ls hl => ?_)
    refine lv_iload hx hb dL_isPort_49 (lv_at hl 0 rfl) ?_
    refine lv_if_eq (tgt := 72) hx hb dL_isPort_51 (by decide) (fun c51 => ?_) (fun c51 => ?_)
    · have hf := if_t c51 hf
      refine W.widen (k := 0) (n := 0) (by omega) (by omega) ?_
      exact B72 _ _ _ _ _ _ _ _ _ _ _ hf H locs hP hD hS ls (lv_sub hl [1, 2, 3, 4, 5, 6, 7, 0] rfl)
    · have hf := if_f c51 hf
      refine lv_aload_n hx hb dL_isPort_54 rfl (lv_at hl 2 rfl) ?_
      refine lv_iload hx hb dL_isPort_55 (lv_at hl 5 rfl) ?_
      obtain ⟨c57, hf⟩ := ck_t hf
      refine va_iald (f := cg 0) hx hb hK hP 53 0 (gLW_53 _ _ _ _ _ _ _ _ _ _ _) rfl (inb_in c57) dL_isPort_57 ?_
      refine lv_if_ge (tgt := 72) hx hb dL_isPort_58 (by decide) (fun c58 => ?_) (fun c58 => ?_)
      · have hf := if_t c58 hf
        refine W.widen (k := 0) (n := 0) (by omega) (by omega) ?_
        exact B72 _ _ _ _ _ _ _ _ _ _ _ hf H locs hP hD hS ls (lv_sub hl [1, 2, 3, 4, 5, 6, 7, 0] rfl)
      · have hf := if_f c58 hf
        refine lv_aload_n hx hb dL_isPort_61 rfl (lv_at hl 2 rfl) ?_
        refine lv_iload hx hb dL_isPort_62 (lv_at hl 6 rfl) ?_
        obtain ⟨c64, hf⟩ := ck_t hf
        refine va_iald (f := cg 0) hx hb hK hP 53 0 (gLW_53 _ _ _ _ _ _ _ _ _ _ _) rfl (inb_in c64) dL_isPort_64 ?_
        refine lv_if_ge (tgt := 72) hx hb dL_isPort_65 (by decide) (fun c65 => ?_) (fun c65 => ?_)
        · have hf := if_t c65 hf
          refine W.widen (k := 0) (n := 0) (by omega) (by omega) ?_
          exact B72 _ _ _ _ _ _ _ _ _ _ _ hf H locs hP hD hS ls (lv_sub hl [1, 2, 3, 4, 5, 6, 7, 0] rfl)
        · have hf := if_f c65 hf
          refine lv_iconst (v := 1) hx hb dL_isPort_68 (by decide) ?_
          refine lv_goto (tgt := 73) hx hb dL_isPort_69 (by decide) ?_
          refine W.widen (k := 0) (n := 0) (by omega) (by omega) ?_
          exact B73 _ _ _ _ _ _ _ _ _ _ _ _ hf H locs hP hD hS ls (lv_sub hl [1, 2, 3, 4, 5, 6, 7, 0] rfl)
  intro H locs hP hD hS ls hl
  have hl : lv_has ls 14 [(0, .ref (A 0)), (1, .ref (A 53)), (2, .ref (A 54)), (3, .ref (A 55)), (4, .ref (A 56)), (5, .ref (A 57)), (6, .int x6), (7, .int x7), (8, .int x8)] := hl
  unfold fL_isPort at hf
  refine lv_iload hx hb dL_isPort_0 (lv_at hl 7 rfl) ?_
  refine lv_bipush (v := 30) hx hb dL_isPort_2 (by decide) ?_
  refine lv_irem hx hb dL_isPort_4 (by decide) ?_
  refine lv_istore (lv' := [(9, .int (x7 - x7 / 30 * 30)), (0, .ref (A 0)), (1, .ref (A 53)), (2, .ref (A 54)), (3, .ref (A 55)), (4, .ref (A 56)), (5, .ref (A 57)), (6, .int x6), (7, .int x7), (8, .int x8)]) hx hb dL_isPort_5 hl (by decide) rfl (fun ls hl => ?_)
  refine lv_iload hx hb dL_isPort_7 (lv_at hl 8 rfl) ?_
  refine lv_bipush (v := 30) hx hb dL_isPort_9 (by decide) ?_
  refine lv_idiv hx hb dL_isPort_11 (by decide) ?_
  refine lv_bipush (v := 30) hx hb dL_isPort_12 (by decide) ?_
  refine lv_irem hx hb dL_isPort_14 (by decide) ?_
  refine lv_istore (lv' := [(10, .int ((x7 / 30) - (x7 / 30) / 30 * 30)), (9, .int (x7 - x7 / 30 * 30)), (0, .ref (A 0)), (1, .ref (A 53)), (2, .ref (A 54)), (3, .ref (A 55)), (4, .ref (A 56)), (5, .ref (A 57)), (6, .int x6), (7, .int x7), (8, .int x8)]) hx hb dL_isPort_15 hl (by decide) rfl (fun ls hl => ?_)
  refine lv_iload hx hb dL_isPort_17 (lv_at hl 8 rfl) ?_
  refine lv_if_ne (tgt := 170) hx hb dL_isPort_19 (by decide) (fun c19 => ?_) (fun c19 => ?_)
  · have hf := if_f c19 hf
    refine lv_iload hx hb dL_isPort_170 (lv_at hl 8 rfl) ?_
    refine lv_iconst (v := 1) hx hb dL_isPort_172 (by decide) ?_
    refine lv_icmp_ne (tgt := 273) hx hb dL_isPort_173 (by decide) (fun c173 => ?_) (fun c173 => ?_)
    · have hf := if_f c173 hf
      refine lv_iload hx hb dL_isPort_273 (lv_at hl 8 rfl) ?_
      refine lv_iconst (v := 2) hx hb dL_isPort_275 (by decide) ?_
      refine lv_icmp_ne (tgt := 390) hx hb dL_isPort_276 (by decide) (fun c276 => ?_) (fun c276 => ?_)
      · have hf := if_f c276 hf
        refine lv_iload hx hb dL_isPort_390 (lv_at hl 8 rfl) ?_
        refine lv_iconst (v := 3) hx hb dL_isPort_392 (by decide) ?_
        refine lv_icmp_ne (tgt := 445) hx hb dL_isPort_393 (by decide) (fun c393 => ?_) (fun c393 => ?_)
        · have hf := if_f c393 hf
          refine lv_iload hx hb dL_isPort_445 (lv_at hl 8 rfl) ?_
          refine lv_iconst (v := 4) hx hb dL_isPort_447 (by decide) ?_
          refine lv_icmp_ne (tgt := 515) hx hb dL_isPort_448 (by decide) (fun c448 => ?_) (fun c448 => ?_)
          · have hf := if_f c448 hf
            refine lv_iload hx hb dL_isPort_515 (lv_at hl 8 rfl) ?_
            refine lv_iconst (v := 5) hx hb dL_isPort_517 (by decide) ?_
            refine lv_icmp_ne (tgt := 608) hx hb dL_isPort_518 (by decide) (fun c518 => ?_) (fun c518 => ?_)
            · have hf := if_f c518 hf
              refine lv_iload hx hb dL_isPort_608 (lv_at hl 8 rfl) ?_
              refine lv_bipush (v := 6) hx hb dL_isPort_610 (by decide) ?_
              refine lv_icmp_ne (tgt := 658) hx hb dL_isPort_612 (by decide) (fun c612 => ?_) (fun c612 => ?_)
              · have hf := if_f c612 hf
                refine lv_aload_n hx hb dL_isPort_658 rfl (lv_at hl 2 rfl) ?_
                refine lv_bipush (v := 7) hx hb dL_isPort_659 (by decide) ?_
                refine lv_iload hx hb dL_isPort_661 (lv_at hl 1 rfl) ?_
                refine lv_iconst (v := 5) hx hb dL_isPort_663 (by decide) ?_
                refine lv_idiv hx hb dL_isPort_664 (by decide) ?_
                refine lv_iload hx hb dL_isPort_665 (lv_at hl 1 rfl) ?_
                refine lv_iconst (v := 5) hx hb dL_isPort_667 (by decide) ?_
                refine lv_irem hx hb dL_isPort_668 (by decide) ?_
                refine lv_iload hx hb dL_isPort_669 (lv_at hl 10 rfl) ?_
                refine lv_bipush (v := 9) hx hb dL_isPort_671 (by decide) ?_
                refine lv_irem hx hb dL_isPort_673 (by decide) ?_
                refine lv_iload hx hb dL_isPort_674 (lv_at hl 10 rfl) ?_
                refine lv_bipush (v := 9) hx hb dL_isPort_676 (by decide) ?_
                refine lv_idiv hx hb dL_isPort_678 (by decide) ?_
                refine lv_iconst (v := 4) hx hb dL_isPort_679 (by decide) ?_
                refine lv_irem hx hb dL_isPort_680 (by decide) ?_
                refine lv_iconst (v := 0) hx hb dL_isPort_681 (by decide) ?_
                obtain ⟨q682, h682, hf⟩ := bd_t hf
                refine cl_i (vx_runSW (As := [.ref (A 0), .int 7, .int ((x7 - x7 / 30 * 30) / 5), .int ((x7 - x7 / 30 * 30) - (x7 - x7 / 30 * 30) / 5 * 5), .int (x8 - x8 / 9 * 9), .int ((x8 / 9) - (x8 / 9) / 4 * 4), .int 0]) (rest := []) S (mL_does l hfl D cI cZ A cs cw ct cu cl cb cp cg 7 ((x7 - x7 / 30 * 30) / 5) ((x7 - x7 / 30 * 30) - (x7 - x7 / 30 * 30) / 5 * 5) (x8 - x8 / 9 * 9) ((x8 / 9) - (x8 / 9) / 4 * 4) 0 H.size q682 h682) (vx_cwSW 7 hts gL_isPort_L_does rfl rfl rfl (by decide +kernel) ⟨Nat.le_of_ble_eq_true rfl, Nat.le_of_ble_eq_true rfl⟩) (xP_S (Cut.self _ []) hP hD hS hA hK hG hX hZ) rfl rfl hl.1 rfl (lv_room (Nat.le_of_ble_eq_true rfl)) dL_isPort_682 ⟨by show _ ≤ 1; omega, by show _ ≤ 6; omega⟩) (Cut.self _ _) hP hD hS hA (fun H locs hP hD hS => ?_)
                refine lv_iload hx hb dL_isPort_685 (lv_at hl 10 rfl) ?_
                refine lv_bipush (v := 9) hx hb dL_isPort_687 (by decide) ?_
                refine lv_idiv hx hb dL_isPort_689 (by decide) ?_
                refine lv_iconst (v := 4) hx hb dL_isPort_690 (by decide) ?_
                refine lv_irem hx hb dL_isPort_691 (by decide) ?_
                refine lv_if_ne (tgt := 701) hx hb dL_isPort_692 (by decide) (fun c692 => ?_) (fun c692 => ?_)
                · have hf := if_f c692 hf
                  refine lv_iload hx hb dL_isPort_701 (lv_at hl 10 rfl) ?_
                  refine lv_bipush (v := 9) hx hb dL_isPort_703 (by decide) ?_
                  refine lv_irem hx hb dL_isPort_705 (by decide) ?_
                  refine lv_if_eq (tgt := 719) hx hb dL_isPort_706 (by decide) (fun c706 => ?_) (fun c706 => ?_)
                  · have hf := if_t c706 hf
                    refine lv_sipush (v := (-2000)) hx hb dL_isPort_719 (by decide) ?_
                    refine lv_goto (tgt := 726) hx hb dL_isPort_722 (by decide) ?_
                    refine W.widen (k := 1) (n := 6) (by omega) (by omega) ?_
                    exact B726 _ _ _ _ _ _ _ _ _ hf H locs hP hD hS ls (lv_sub hl [] rfl)
                  · have hf := if_f c706 hf
                    refine lv_iload hx hb dL_isPort_709 (lv_at hl 10 rfl) ?_
                    refine lv_bipush (v := 9) hx hb dL_isPort_711 (by decide) ?_
                    refine lv_irem hx hb dL_isPort_713 (by decide) ?_
                    refine lv_bipush (v := 8) hx hb dL_isPort_714 (by decide) ?_
                    refine lv_icmp_ne (tgt := 725) hx hb dL_isPort_716 (by decide) (fun c716 => ?_) (fun c716 => ?_)
                    · have hf := if_f c716 hf
                      refine lv_iconst (v := 0) hx hb dL_isPort_725 (by decide) ?_
                      refine W.widen (k := 1) (n := 6) (by omega) (by omega) ?_
                      exact B726 _ _ _ _ _ _ _ _ _ hf H locs hP hD hS ls (lv_sub hl [] rfl)
                    · have hf := if_t c716 hf
                      refine lv_sipush (v := (-2000)) hx hb dL_isPort_719 (by decide) ?_
                      refine lv_goto (tgt := 726) hx hb dL_isPort_722 (by decide) ?_
                      refine W.widen (k := 1) (n := 6) (by omega) (by omega) ?_
                      exact B726 _ _ _ _ _ _ _ _ _ hf H locs hP hD hS ls (lv_sub hl [] rfl)
                · have hf := if_t c692 hf
                  refine lv_sipush (v := (-3000)) hx hb dL_isPort_695 (by decide) ?_
                  refine lv_goto (tgt := 726) hx hb dL_isPort_698 (by decide) ?_
                  refine W.widen (k := 1) (n := 6) (by omega) (by omega) ?_
                  exact B726 _ _ _ _ _ _ _ _ _ hf H locs hP hD hS ls (lv_sub hl [] rfl)
              · have hf := if_t c612 hf
                refine lv_aload_n hx hb dL_isPort_615 rfl (lv_at hl 2 rfl) ?_
                refine lv_bipush (v := 6) hx hb dL_isPort_616 (by decide) ?_
                refine lv_iload hx hb dL_isPort_618 (lv_at hl 1 rfl) ?_
                refine lv_iconst (v := 5) hx hb dL_isPort_620 (by decide) ?_
                refine lv_idiv hx hb dL_isPort_621 (by decide) ?_
                refine lv_iload hx hb dL_isPort_622 (lv_at hl 1 rfl) ?_
                refine lv_iconst (v := 5) hx hb dL_isPort_624 (by decide) ?_
                refine lv_irem hx hb dL_isPort_625 (by decide) ?_
                refine lv_iload hx hb dL_isPort_626 (lv_at hl 10 rfl) ?_
                refine lv_iconst (v := 4) hx hb dL_isPort_628 (by decide) ?_
                refine lv_irem hx hb dL_isPort_629 (by decide) ?_
                refine lv_iconst (v := 0) hx hb dL_isPort_630 (by decide) ?_
                refine lv_iconst (v := 0) hx hb dL_isPort_631 (by decide) ?_
                obtain ⟨q632, h632, hf⟩ := bd_t hf
                refine cl_i (vx_runSW (As := [.ref (A 0), .int 6, .int ((x7 - x7 / 30 * 30) / 5), .int ((x7 - x7 / 30 * 30) - (x7 - x7 / 30 * 30) / 5 * 5), .int (x8 - x8 / 4 * 4), .int 0, .int 0]) (rest := []) S (mL_does l hfl D cI cZ A cs cw ct cu cl cb cp cg 6 ((x7 - x7 / 30 * 30) / 5) ((x7 - x7 / 30 * 30) - (x7 - x7 / 30 * 30) / 5 * 5) (x8 - x8 / 4 * 4) 0 0 H.size q632 h632) (vx_cwSW 7 hts gL_isPort_L_does rfl rfl rfl (by decide +kernel) ⟨Nat.le_of_ble_eq_true rfl, Nat.le_of_ble_eq_true rfl⟩) (xP_S (Cut.self _ []) hP hD hS hA hK hG hX hZ) rfl rfl hl.1 rfl (lv_room (Nat.le_of_ble_eq_true rfl)) dL_isPort_632 ⟨by show _ ≤ 1; omega, by show _ ≤ 6; omega⟩) (Cut.self _ _) hP hD hS hA (fun H locs hP hD hS => ?_)
                refine lv_iload hx hb dL_isPort_635 (lv_at hl 10 rfl) ?_
                refine lv_iconst (v := 4) hx hb dL_isPort_637 (by decide) ?_
                refine lv_irem hx hb dL_isPort_638 (by decide) ?_
                refine lv_if_ne (tgt := 648) hx hb dL_isPort_639 (by decide) (fun c639 => ?_) (fun c639 => ?_)
                · have hf := if_f c639 hf
                  refine lv_iconst (v := 0) hx hb dL_isPort_648 (by decide) ?_
                  refine W.widen (k := 1) (n := 6) (by omega) (by omega) ?_
                  exact B649 _ _ _ _ _ _ _ _ _ hf H locs hP hD hS ls (lv_sub hl [] rfl)
                · have hf := if_t c639 hf
                  refine lv_sipush (v := (-3000)) hx hb dL_isPort_642 (by decide) ?_
                  refine lv_goto (tgt := 649) hx hb dL_isPort_645 (by decide) ?_
                  refine W.widen (k := 1) (n := 6) (by omega) (by omega) ?_
                  exact B649 _ _ _ _ _ _ _ _ _ hf H locs hP hD hS ls (lv_sub hl [] rfl)
            · have hf := if_t c518 hf
              refine lv_iload hx hb dL_isPort_521 (lv_at hl 10 rfl) ?_
              refine lv_iconst (v := 4) hx hb dL_isPort_523 (by decide) ?_
              refine lv_irem hx hb dL_isPort_524 (by decide) ?_
              refine lv_istore (lv' := [(11, .int (x8 - x8 / 4 * 4)), (10, .int ((x7 / 30) - (x7 / 30) / 30 * 30)), (9, .int (x7 - x7 / 30 * 30)), (0, .ref (A 0)), (1, .ref (A 53)), (2, .ref (A 54)), (3, .ref (A 55)), (4, .ref (A 56)), (5, .ref (A 57)), (6, .int x6), (7, .int x7), (8, .int x8)]) hx hb dL_isPort_525 hl (by decide) rfl (fun ls hl => ?_)
              refine lv_aload hx hb dL_isPort_527 (lv_at hl 8 rfl) ?_
              refine lv_iconst (v := 3) hx hb dL_isPort_529 (by decide) ?_
              refine lv_iload hx hb dL_isPort_530 (lv_at hl 0 rfl) ?_
              refine lv_if_le (tgt := 545) hx hb dL_isPort_532 (by decide) (fun c532 => ?_) (fun c532 => ?_)
              · have hf := if_t c532 hf
                refine W.widen (k := 0) (n := 0) (by omega) (by omega) ?_
                exact B545 _ _ _ _ _ _ _ _ _ _ hf H locs hP hD hS ls (lv_sub hl [3, 8, 2, 0] rfl)
              · have hf := if_f c532 hf
                refine lv_iload hx hb dL_isPort_535 (lv_at hl 0 rfl) ?_
                refine lv_iconst (v := 3) hx hb dL_isPort_537 (by decide) ?_
                refine lv_icmp_ge (tgt := 545) hx hb dL_isPort_538 (by decide) (fun c538 => ?_) (fun c538 => ?_)
                · have hf := if_t c538 hf
                  refine W.widen (k := 0) (n := 0) (by omega) (by omega) ?_
                  exact B545 _ _ _ _ _ _ _ _ _ _ hf H locs hP hD hS ls (lv_sub hl [3, 8, 2, 0] rfl)
                · have hf := if_f c538 hf
                  refine lv_iconst (v := 0) hx hb dL_isPort_541 (by decide) ?_
                  refine lv_goto (tgt := 549) hx hb dL_isPort_542 (by decide) ?_
                  refine W.widen (k := 0) (n := 0) (by omega) (by omega) ?_
                  exact B549 _ _ _ _ _ _ _ _ _ _ _ hf H locs hP hD hS ls (lv_sub hl [3, 2, 0] rfl)
          · have hf := if_t c448 hf
            refine lv_aload_n hx hb dL_isPort_451 rfl (lv_at hl 2 rfl) ?_
            refine lv_iload hx hb dL_isPort_452 (lv_at hl 1 rfl) ?_
            refine lv_iconst (v := 5) hx hb dL_isPort_454 (by decide) ?_
            refine lv_idiv hx hb dL_isPort_455 (by decide) ?_
            refine lv_iload hx hb dL_isPort_456 (lv_at hl 1 rfl) ?_
            refine lv_iconst (v := 5) hx hb dL_isPort_458 (by decide) ?_
            refine lv_irem hx hb dL_isPort_459 (by decide) ?_
            refine lv_iconst (v := 2) hx hb dL_isPort_460 (by decide) ?_
            obtain ⟨q461, h461, hf⟩ := bn_t hf
            refine cl_i (va_runV (As := [.int ((x7 - x7 / 30 * 30) / 5), .int ((x7 - x7 / 30 * 30) - (x7 - x7 / 30 * 30) / 5 * 5), .int 2]) (rest := []) S (mX5_port l D cI cZ (aLW_X5_0_1_2_3_4_5_6 A) cs cw ct cu cl cb cp ((x7 - x7 / 30 * 30) / 5) ((x7 - x7 / 30 * 30) - (x7 - x7 / 30 * 30) / 5 * 5) 2 H.size q461 h461) (cwV 3 hts gL_isPort_X5_port rfl rfl rfl (by decide +kernel) ⟨Nat.le_of_ble_eq_true rfl, Nat.le_of_ble_eq_true rfl⟩) (mP_V (ci := 5) (cutLW_X5_0_1_2_3_4_5_6 _ _ _ _ _ _ _ _ _ _ _ st0 st0 st0 st0 st0 st0 st0) hP hD hK hG rfl (gX5_0 _ _ _ _ _ _ _ _ _ _)) rfl rfl hl.1 rfl (lv_room (Nat.le_of_ble_eq_true rfl)) dL_isPort_461 ⟨by show _ ≤ 1; omega, by show _ ≤ 6; omega⟩) (cutLW_X5_0_1_2_3_4_5_6 _ _ _ _ _ _ _ _ _ _ _ _ _ _ _ _ _ _) hP hD hS hA (fun H locs hP hD hS => ?_)
            refine lv_istore (lv' := [(11, .int q461), (10, .int ((x7 / 30) - (x7 / 30) / 30 * 30)), (9, .int (x7 - x7 / 30 * 30)), (0, .ref (A 0)), (1, .ref (A 53)), (2, .ref (A 54)), (3, .ref (A 55)), (4, .ref (A 56)), (5, .ref (A 57)), (6, .int x6), (7, .int x7), (8, .int x8)]) hx hb dL_isPort_464 hl (by decide) rfl (fun ls hl => ?_)
            refine lv_aload_n hx hb dL_isPort_466 rfl (lv_at hl 3 rfl) ?_
            refine lv_iconst (v := 4) hx hb dL_isPort_467 (by decide) ?_
            refine lv_iload hx hb dL_isPort_468 (lv_at hl 2 rfl) ?_
            refine lv_iconst (v := 5) hx hb dL_isPort_470 (by decide) ?_
            refine lv_idiv hx hb dL_isPort_471 (by decide) ?_
            refine lv_iload hx hb dL_isPort_472 (lv_at hl 2 rfl) ?_
            refine lv_iconst (v := 5) hx hb dL_isPort_474 (by decide) ?_
            refine lv_irem hx hb dL_isPort_475 (by decide) ?_
            refine lv_iconst (v := 0) hx hb dL_isPort_476 (by decide) ?_
            refine lv_iconst (v := 0) hx hb dL_isPort_477 (by decide) ?_
            refine lv_iconst (v := 0) hx hb dL_isPort_478 (by decide) ?_
            obtain ⟨q479, h479, hf⟩ := bd_t hf
            refine cl_i (vx_runSW (As := [.ref (A 0), .int 4, .int ((x7 - x7 / 30 * 30) / 5), .int ((x7 - x7 / 30 * 30) - (x7 - x7 / 30 * 30) / 5 * 5), .int 0, .int 0, .int 0]) (rest := []) S (mL_does l hfl D cI cZ A cs cw ct cu cl cb cp cg 4 ((x7 - x7 / 30 * 30) / 5) ((x7 - x7 / 30 * 30) - (x7 - x7 / 30 * 30) / 5 * 5) 0 0 0 H.size q479 h479) (vx_cwSW 7 hts gL_isPort_L_does rfl rfl rfl (by decide +kernel) ⟨Nat.le_of_ble_eq_true rfl, Nat.le_of_ble_eq_true rfl⟩) (xP_S (Cut.self _ []) hP hD hS hA hK hG hX hZ) rfl rfl hl.1 rfl (lv_room (Nat.le_of_ble_eq_true rfl)) dL_isPort_479 ⟨by show _ ≤ 1; omega, by show _ ≤ 6; omega⟩) (Cut.self _ _) hP hD hS hA (fun H locs hP hD hS => ?_)
            refine lv_iconst (v := 1) hx hb dL_isPort_482 (by decide) ?_
            refine lv_iload hx hb dL_isPort_483 (lv_at hl 0 rfl) ?_
            refine lv_isub hx hb dL_isPort_485 ?_
            refine lv_icmp_ne (tgt := 513) hx hb dL_isPort_486 (by decide) (fun c486 => ?_) (fun c486 => ?_)
            · have hf := if_f c486 hf
              refine lv_iconst (v := 0) hx hb dL_isPort_513 (by decide) ?_
              exact hR _ ls H locs _ _ _ _ (congrArg (fun q => q.1) (Option.some.inj hf)) (congrArg (fun q => (wLW cI cZ A (q.2.1) (q.2.2.1) (q.2.2.2.1) cu (q.2.2.2.2.1) (q.2.2.2.2.2.1) (q.2.2.2.2.2.2.1) (q.2.2.2.2.2.2.2))) (Option.some.inj hf)) (by decide) (by omega) (by omega) dL_isPort_514 hP hD hS
            · have hf := if_t c486 hf
              refine lv_aload_n hx hb dL_isPort_489 rfl (lv_at hl 3 rfl) ?_
              refine lv_iload hx hb dL_isPort_490 (lv_at hl 2 rfl) ?_
              refine lv_iconst (v := 5) hx hb dL_isPort_492 (by decide) ?_
              refine lv_idiv hx hb dL_isPort_493 (by decide) ?_
              refine lv_iload hx hb dL_isPort_494 (lv_at hl 2 rfl) ?_
              refine lv_iconst (v := 5) hx hb dL_isPort_496 (by decide) ?_
              refine lv_irem hx hb dL_isPort_497 (by decide) ?_
              refine lv_iconst (v := 2) hx hb dL_isPort_498 (by decide) ?_
              obtain ⟨q499, h499, hf⟩ := bn_t hf
              refine cl_i (va_runV (As := [.int ((x7 - x7 / 30 * 30) / 5), .int ((x7 - x7 / 30 * 30) - (x7 - x7 / 30 * 30) / 5 * 5), .int 2]) (rest := []) S (mX5_port l D cI cZ (aLW_X5_0_1_2_3_4_5_6 A) (q479.2.1) (q479.2.2.1) (q479.2.2.2.1) cu (q479.2.2.2.2.1) (q479.2.2.2.2.2.1) (q479.2.2.2.2.2.2) ((x7 - x7 / 30 * 30) / 5) ((x7 - x7 / 30 * 30) - (x7 - x7 / 30 * 30) / 5 * 5) 2 H.size q499 h499) (cwV 3 hts gL_isPort_X5_port rfl rfl rfl (by decide +kernel) ⟨Nat.le_of_ble_eq_true rfl, Nat.le_of_ble_eq_true rfl⟩) (mP_V (ci := 5) (cutLW_X5_0_1_2_3_4_5_6 _ _ _ _ _ _ _ _ _ _ _ st0 st0 st0 st0 st0 st0 st0) hP hD hK hG rfl (gX5_0 _ _ _ _ _ _ _ _ _ _)) rfl rfl hl.1 rfl (lv_room (Nat.le_of_ble_eq_true rfl)) dL_isPort_499 ⟨by show _ ≤ 1; omega, by show _ ≤ 6; omega⟩) (cutLW_X5_0_1_2_3_4_5_6 _ _ _ _ _ _ _ _ _ _ _ _ _ _ _ _ _ _) hP hD hS hA (fun H locs hP hD hS => ?_)
              refine lv_iconst (v := 1) hx hb dL_isPort_502 (by decide) ?_
              refine lv_iload hx hb dL_isPort_503 (lv_at hl 0 rfl) ?_
              refine lv_isub hx hb dL_isPort_505 ?_
              refine lv_icmp_ne (tgt := 513) hx hb dL_isPort_506 (by decide) (fun c506 => ?_) (fun c506 => ?_)
              · have hf := if_f c506 hf
                refine lv_iconst (v := 0) hx hb dL_isPort_513 (by decide) ?_
                exact hR _ ls H locs _ _ _ _ (congrArg (fun q => q.1) (Option.some.inj hf)) (congrArg (fun q => (wLW cI cZ A (q.2.1) (q.2.2.1) (q.2.2.2.1) cu (q.2.2.2.2.1) (q.2.2.2.2.2.1) (q.2.2.2.2.2.2.1) (q.2.2.2.2.2.2.2))) (Option.some.inj hf)) (by decide) (by omega) (by omega) dL_isPort_514 hP hD hS
              · have hf := if_t c506 hf
                refine lv_iconst (v := 1) hx hb dL_isPort_509 (by decide) ?_
                refine lv_goto (tgt := 514) hx hb dL_isPort_510 (by decide) ?_
                exact hR _ ls H locs _ _ _ _ (congrArg (fun q => q.1) (Option.some.inj hf)) (congrArg (fun q => (wLW cI cZ A (q.2.1) (q.2.2.1) (q.2.2.2.1) cu (q.2.2.2.2.1) (q.2.2.2.2.2.1) (q.2.2.2.2.2.2.1) (q.2.2.2.2.2.2.2))) (Option.some.inj hf)) (by decide) (by omega) (by omega) dL_isPort_514 hP hD hS
        · have hf := if_t c393 hf
          refine lv_aload hx hb dL_isPort_396 (lv_at hl 6 rfl) ?_
          refine lv_iload hx hb dL_isPort_398 (lv_at hl 1 rfl) ?_
          refine lv_iconst (v := 5) hx hb dL_isPort_400 (by decide) ?_
          refine lv_idiv hx hb dL_isPort_401 (by decide) ?_
          obtain ⟨c402, hf⟩ := ck_t hf
          refine va_iald (f := cg 3) hx hb hK hP 56 0 (gLW_56 _ _ _ _ _ _ _ _ _ _ _) rfl (inb_in c402) dL_isPort_402 ?_
          refine lv_istore (lv' := [(11, .int (cg 3 ((x7 - x7 / 30 * 30) / 5).toNatClampNeg)), (10, .int ((x7 / 30) - (x7 / 30) / 30 * 30)), (9, .int (x7 - x7 / 30 * 30)), (0, .ref (A 0)), (1, .ref (A 53)), (2, .ref (A 54)), (3, .ref (A 55)), (4, .ref (A 56)), (5, .ref (A 57)), (6, .int x6), (7, .int x7), (8, .int x8)]) hx hb dL_isPort_403 hl (by decide) rfl (fun ls hl => ?_)
          refine lv_aload hx hb dL_isPort_405 (lv_at hl 7 rfl) ?_
          refine lv_iload hx hb dL_isPort_407 (lv_at hl 2 rfl) ?_
          refine lv_iconst (v := 5) hx hb dL_isPort_409 (by decide) ?_
          refine lv_idiv hx hb dL_isPort_410 (by decide) ?_
          refine lv_iload hx hb dL_isPort_411 (lv_at hl 11 rfl) ?_
          refine lv_bipush (v := 16) hx hb dL_isPort_413 (by decide) ?_
          refine lv_irem hx hb dL_isPort_415 (by decide) ?_
          obtain ⟨c416, hf⟩ := ck_t hf
          refine st_i hx hb hK hP hD hS 56 0 (sLW_56 _ _ _ _ _ _ _ _ _ _ _ _ _) (gLW_56 _ _ _ _ _ _ _ _ _ _ _) rfl c416 dL_isPort_416 (fun H locs hP hD hS => ?_)
          refine lv_aload_n hx hb dL_isPort_417 rfl (lv_at hl 3 rfl) ?_
          refine lv_iconst (v := 3) hx hb dL_isPort_418 (by decide) ?_
          refine lv_iload hx hb dL_isPort_419 (lv_at hl 2 rfl) ?_
          refine lv_iconst (v := 5) hx hb dL_isPort_421 (by decide) ?_
          refine lv_idiv hx hb dL_isPort_422 (by decide) ?_
          refine lv_iload hx hb dL_isPort_423 (lv_at hl 11 rfl) ?_
          refine lv_bipush (v := 16) hx hb dL_isPort_425 (by decide) ?_
          refine lv_irem hx hb dL_isPort_427 (by decide) ?_
          refine lv_iconst (v := 0) hx hb dL_isPort_428 (by decide) ?_
          refine lv_iconst (v := 0) hx hb dL_isPort_429 (by decide) ?_
          refine lv_iconst (v := 0) hx hb dL_isPort_430 (by decide) ?_
          obtain ⟨q431, h431, hf⟩ := bd_t hf
          refine cl_i (vx_runSW (As := [.ref (A 0), .int 3, .int ((x7 - x7 / 30 * 30) / 5), .int (x8 - x8 / 16 * 16), .int 0, .int 0, .int 0]) (rest := []) S (mL_does l hfl D cI cZ A cs cw ct cu cl cb cp (aS cg 3 ((x7 - x7 / 30 * 30) / 5) (x8 - x8 / 16 * 16)) 3 ((x7 - x7 / 30 * 30) / 5) (x8 - x8 / 16 * 16) 0 0 0 H.size q431 h431) (vx_cwSW 7 hts gL_isPort_L_does rfl rfl rfl (by decide +kernel) ⟨Nat.le_of_ble_eq_true rfl, Nat.le_of_ble_eq_true rfl⟩) (xP_S (Cut.self _ []) hP hD hS hA hK hG hX hZ) rfl rfl hl.1 rfl (lv_room (Nat.le_of_ble_eq_true rfl)) dL_isPort_431 ⟨by show _ ≤ 1; omega, by show _ ≤ 6; omega⟩) (Cut.self _ _) hP hD hS hA (fun H locs hP hD hS => ?_)
          refine lv_iload hx hb dL_isPort_434 (lv_at hl 0 rfl) ?_
          refine lv_icmp_ne (tgt := 443) hx hb dL_isPort_436 (by decide) (fun c436 => ?_) (fun c436 => ?_)
          · have hf := if_f c436 hf
            refine lv_iconst (v := 0) hx hb dL_isPort_443 (by decide) ?_
            exact hR _ ls H locs _ _ _ _ (congrArg (fun q => q.1) (Option.some.inj hf)) (congrArg (fun q => (wLW cI cZ A (q.2.1) (q.2.2.1) (q.2.2.2.1) cu (q.2.2.2.2.1) (q.2.2.2.2.2.1) (q.2.2.2.2.2.2.1) (q.2.2.2.2.2.2.2))) (Option.some.inj hf)) (by decide) (by omega) (by omega) dL_isPort_444 hP hD hS
          · have hf := if_t c436 hf
            refine lv_iconst (v := 1) hx hb dL_isPort_439 (by decide) ?_
            refine lv_goto (tgt := 444) hx hb dL_isPort_440 (by decide) ?_
            exact hR _ ls H locs _ _ _ _ (congrArg (fun q => q.1) (Option.some.inj hf)) (congrArg (fun q => (wLW cI cZ A (q.2.1) (q.2.2.1) (q.2.2.2.1) cu (q.2.2.2.2.1) (q.2.2.2.2.2.1) (q.2.2.2.2.2.2.1) (q.2.2.2.2.2.2.2))) (Option.some.inj hf)) (by decide) (by omega) (by omega) dL_isPort_444 hP hD hS
      · have hf := if_t c276 hf
        refine lv_aload_n hx hb dL_isPort_279 rfl (lv_at hl 3 rfl) ?_
        refine lv_iload hx hb dL_isPort_280 (lv_at hl 1 rfl) ?_
        obtain ⟨c282, hf⟩ := ck_t hf
        refine va_iald (f := cg 0) hx hb hK hP 53 0 (gLW_53 _ _ _ _ _ _ _ _ _ _ _) rfl (inb_in c282) dL_isPort_282 ?_
        refine lv_istore (lv' := [(11, .int (cg 0 (x7 - x7 / 30 * 30).toNatClampNeg)), (10, .int ((x7 / 30) - (x7 / 30) / 30 * 30)), (9, .int (x7 - x7 / 30 * 30)), (0, .ref (A 0)), (1, .ref (A 53)), (2, .ref (A 54)), (3, .ref (A 55)), (4, .ref (A 56)), (5, .ref (A 57)), (6, .int x6), (7, .int x7), (8, .int x8)]) hx hb dL_isPort_283 hl (by decide) rfl (fun ls hl => ?_)
        refine lv_iload hx hb dL_isPort_285 (lv_at hl 0 rfl) ?_
        refine lv_if_ge (tgt := 296) hx hb dL_isPort_287 (by decide) (fun c287 => ?_) (fun c287 => ?_)
        · have hf := if_t c287 hf
          refine lv_iload hx hb dL_isPort_296 (lv_at hl 0 rfl) ?_
          refine lv_bipush (v := 100) hx hb dL_isPort_298 (by decide) ?_
          refine lv_icmp_ge (tgt := 307) hx hb dL_isPort_300 (by decide) (fun c300 => ?_) (fun c300 => ?_)
          · have hf := if_t c300 hf
            refine lv_iload hx hb dL_isPort_307 (lv_at hl 0 rfl) ?_
            refine lv_bipush (v := 100) hx hb dL_isPort_309 (by decide) ?_
            refine lv_isub hx hb dL_isPort_311 ?_
            refine W.widen (k := 0) (n := 0) (by omega) (by omega) ?_
            exact B312 _ _ _ _ _ _ _ _ _ _ hf H locs hP hD hS ls (lv_sub hl [3, 4, 6, 8, 2, 0] rfl)
          · have hf := if_f c300 hf
            refine lv_iconst (v := (-1)) hx hb dL_isPort_303 (by decide) ?_
            refine lv_goto (tgt := 312) hx hb dL_isPort_304 (by decide) ?_
            refine W.widen (k := 0) (n := 0) (by omega) (by omega) ?_
            exact B312 _ _ _ _ _ _ _ _ _ _ hf H locs hP hD hS ls (lv_sub hl [3, 4, 6, 8, 2, 0] rfl)
        · have hf := if_f c287 hf
          refine lv_sipush (v := (-1000)) hx hb dL_isPort_290 (by decide) ?_
          refine lv_goto (tgt := 312) hx hb dL_isPort_293 (by decide) ?_
          refine W.widen (k := 0) (n := 0) (by omega) (by omega) ?_
          exact B312 _ _ _ _ _ _ _ _ _ _ hf H locs hP hD hS ls (lv_sub hl [3, 4, 6, 8, 2, 0] rfl)
    · have hf := if_t c173 hf
      refine lv_iload hx hb dL_isPort_176 (lv_at hl 10 rfl) ?_
      refine lv_bipush (v := 10) hx hb dL_isPort_178 (by decide) ?_
      refine lv_irem hx hb dL_isPort_180 (by decide) ?_
      refine lv_istore (lv' := [(11, .int (x8 - x8 / 10 * 10)), (10, .int ((x7 / 30) - (x7 / 30) / 30 * 30)), (9, .int (x7 - x7 / 30 * 30)), (0, .ref (A 0)), (1, .ref (A 53)), (2, .ref (A 54)), (3, .ref (A 55)), (4, .ref (A 56)), (5, .ref (A 57)), (6, .int x6), (7, .int x7), (8, .int x8)]) hx hb dL_isPort_181 hl (by decide) rfl (fun ls hl => ?_)
      refine lv_aload_n hx hb dL_isPort_183 rfl (lv_at hl 4 rfl) ?_
      refine lv_iload hx hb dL_isPort_184 (lv_at hl 2 rfl) ?_
      obtain ⟨c186, hf⟩ := ck_t hf
      refine va_iald (f := cg 0) hx hb hK hP 53 0 (gLW_53 _ _ _ _ _ _ _ _ _ _ _) rfl (inb_in c186) dL_isPort_186 ?_
      refine lv_if_ge (tgt := 201) hx hb dL_isPort_187 (by decide) (fun c187 => ?_) (fun c187 => ?_)
      · have hf := if_t c187 hf
        refine W.widen (k := 0) (n := 0) (by omega) (by omega) ?_
        exact B201 _ _ _ _ _ _ _ _ _ hf H locs hP hD hS ls (lv_sub hl [3, 4, 6, 8, 2, 0] rfl)
      · have hf := if_f c187 hf
        refine lv_aload_n hx hb dL_isPort_190 rfl (lv_at hl 6 rfl) ?_
        refine lv_iload hx hb dL_isPort_191 (lv_at hl 0 rfl) ?_
        obtain ⟨c193, hf⟩ := ck_t hf
        refine va_iald (f := cg 2) hx hb hK hP 55 0 (gLW_55 _ _ _ _ _ _ _ _ _ _ _) rfl (inb_in c193) dL_isPort_193 ?_
        refine lv_if_ge (tgt := 201) hx hb dL_isPort_194 (by decide) (fun c194 => ?_) (fun c194 => ?_)
        · have hf := if_t c194 hf
          refine W.widen (k := 0) (n := 0) (by omega) (by omega) ?_
          exact B201 _ _ _ _ _ _ _ _ _ hf H locs hP hD hS ls (lv_sub hl [3, 4, 6, 8, 2, 0] rfl)
        · have hf := if_f c194 hf
          refine lv_iconst (v := 1) hx hb dL_isPort_197 (by decide) ?_
          refine lv_goto (tgt := 202) hx hb dL_isPort_198 (by decide) ?_
          refine W.widen (k := 0) (n := 0) (by omega) (by omega) ?_
          exact B202 _ _ _ _ _ _ _ _ _ _ hf H locs hP hD hS ls (lv_sub hl [3, 4, 6, 8, 2, 0] rfl)
  · have hf := if_t c19 hf
    refine lv_iconst (v := 1) hx hb dL_isPort_22 (by decide) ?_
    refine lv_iload hx hb dL_isPort_23 (lv_at hl 10 rfl) ?_
    refine lv_bipush (v := 20) hx hb dL_isPort_25 (by decide) ?_
    refine lv_irem hx hb dL_isPort_27 (by decide) ?_
    refine lv_iadd hx hb dL_isPort_28 ?_
    refine lv_istore (lv' := [(11, .int (1 + (x8 - x8 / 20 * 20))), (10, .int ((x7 / 30) - (x7 / 30) / 30 * 30)), (9, .int (x7 - x7 / 30 * 30)), (0, .ref (A 0)), (1, .ref (A 53)), (2, .ref (A 54)), (3, .ref (A 55)), (4, .ref (A 56)), (5, .ref (A 57)), (6, .int x6), (7, .int x7), (8, .int x8)]) hx hb dL_isPort_29 hl (by decide) rfl (fun ls hl => ?_)
    refine lv_iload hx hb dL_isPort_31 (lv_at hl 2 rfl) ?_
    refine lv_iconst (v := 5) hx hb dL_isPort_33 (by decide) ?_
    refine lv_idiv hx hb dL_isPort_34 (by decide) ?_
    refine lv_iload hx hb dL_isPort_35 (lv_at hl 1 rfl) ?_
    refine lv_iconst (v := 5) hx hb dL_isPort_37 (by decide) ?_
    refine lv_idiv hx hb dL_isPort_38 (by decide) ?_
    refine lv_icmp_eq (tgt := 46) hx hb dL_isPort_39 (by decide) (fun c39 => ?_) (fun c39 => ?_)
    · have hf := if_t c39 hf
      refine lv_iconst (v := 0) hx hb dL_isPort_46 (by decide) ?_
      refine W.widen (k := 0) (n := 0) (by omega) (by omega) ?_
      exact B47 _ _ _ _ _ _ _ _ _ _ _ hf H locs hP hD hS ls (lv_sub hl [3, 4, 5, 8, 2, 1, 0] rfl)
    · have hf := if_f c39 hf
      refine lv_iconst (v := 1) hx hb dL_isPort_42 (by decide) ?_
      refine lv_goto (tgt := 47) hx hb dL_isPort_43 (by decide) ?_
      refine W.widen (k := 0) (n := 0) (by omega) (by omega) ?_
      exact B47 _ _ _ _ _ _ _ _ _ _ _ hf H locs hP hD hS ls (lv_sub hl [3, 4, 5, 8, 2, 1, 0] rfl)
set_option maxHeartbeats 16000000 in
set_option maxRecDepth 100000 in
theorem mL_isSent (l : Launch) (hfl : l.stackTraces = false) (D : va_G) (cI cZ : ClassId) (A : Nat → Nat) (cs : St) (cw : St) (ct : St) (cu : St) (cl : St) (cb : St) (cp : St) (cg : St) (x4 : Int32) (x5 : Int32) (sz : Nat) (res : Int32 × St × St × St × St × St × St × St) (hf : fL_isSent cs cw ct cl cb cp cg x4 x5 = some res) : Met l yL_isSent wsL_isSent ({ frames := 11, cells := 2, slots := 12, locals := 212 }) (xP D (tysX cI cZ) [.ref (A 0), .ref (A 53), .ref (A 55), .ref (A 57), .int x4, .int x5] (wLW cI cZ A cs cw ct cu cl cb cp cg) sz) (mQi D res.1 (wLW cI cZ A cs cw ct cu cl cb cp cg) (wLW cI cZ A (res.2.1) (res.2.2.1) (res.2.2.2.1) cu (res.2.2.2.2.1) (res.2.2.2.2.2.1) (res.2.2.2.2.2.2.1) (res.2.2.2.2.2.2.2)) sz) 2 12 (va_A (wLW cI cZ A cs cw ct cu cl cb cp cg) sz) := by
  refine mkL (cc := cL_isSent) (maxL := 13) (by decide +kernel) rfl rfl (Nat.le_of_ble_eq_true rfl) ?_
  intro p e s m args below meth c A0 Q S hK hG hX hZ hA hR
  obtain ⟨hx, hb, hml, hown, hts⟩ := id S
  have B178 : ∀ (cs : St) (cw : St) (ct : St) (cl : St) (cb : St) (cp : St) (cg : St) (x7 : Int32) (x10 : Int32) (y0 : Int32) (y1 : Int32) (y2 : Int32), fL_isSent_J178 cs cw ct cl cb cp cg x7 x10 y0 y1 y2 = some res → Bk p l e ({ frames := 11, cells := 2, slots := 12, locals := 212 }) s m args below meth c Q A0 D 13 1 6 (wLW cI cZ A cs cw ct cu cl cb cp cg) [(7, .int x7), (10, .int x10)] 178 [.int y0, .int y1, .int y2, .ref (A 0)] := by
    intro cs cw ct cl cb cp cg x7 x10 y0 y1 y2 hf
    unfold fL_isSent_J178 at hf
    intro H locs hP hD hS ls hl
    refine lv_iconst (v := 0) hx hb dL_isSent_178 (by decide) ?_
    refine lv_iconst (v := 0) hx hb dL_isSent_179 (by decide) ?_
    refine lv_iconst (v := 0) hx hb dL_isSent_180 (by decide) ?_
    obtain ⟨q181, h181, hf⟩ := bd_t hf
    refine cl_i (vx_runSW (As := [.ref (A 0), .int y2, .int y1, .int y0, .int 0, .int 0, .int 0]) (rest := []) S (mL_does l hfl D cI cZ A cs cw ct cu cl cb cp cg y2 y1 y0 0 0 0 H.size q181 h181) (vx_cwSW 7 hts gL_isSent_L_does rfl rfl rfl (by decide +kernel) ⟨Nat.le_of_ble_eq_true rfl, Nat.le_of_ble_eq_true rfl⟩) (xP_S (Cut.self _ []) hP hD hS hA hK hG hX hZ) rfl rfl hl.1 rfl (lv_room (Nat.le_of_ble_eq_true rfl)) dL_isSent_181 ⟨by show _ ≤ 2; omega, by show _ ≤ 12; omega⟩) (Cut.self _ _) hP hD hS hA (fun H locs hP hD hS => ?_)
    refine lv_istore (lv' := [(12, .int q181.1), (7, .int x7), (10, .int x10)]) hx hb dL_isSent_184 hl (by decide) rfl (fun ls hl => ?_)
    refine lv_iload hx hb dL_isSent_186 (lv_at hl 2 rfl) ?_
    refine lv_if_lt (tgt := 239) hx hb dL_isSent_188 (by decide) (fun c188 => ?_) (fun c188 => ?_)
    · have hf := if_t c188 hf
      refine lv_iconst (v := 0) hx hb dL_isSent_239 (by decide) ?_
      exact hR _ ls H locs _ _ _ _ (congrArg (fun q => q.1) (Option.some.inj hf)) (congrArg (fun q => (wLW cI cZ A (q.2.1) (q.2.2.1) (q.2.2.2.1) cu (q.2.2.2.2.1) (q.2.2.2.2.2.1) (q.2.2.2.2.2.2.1) (q.2.2.2.2.2.2.2))) (Option.some.inj hf)) (by decide) (by omega) (by omega) dL_isSent_240 hP hD hS
    · have hf := if_f c188 hf
      refine lv_iload hx hb dL_isSent_191 (lv_at hl 2 rfl) ?_
      refine lv_sipush (v := 2000) hx hb dL_isSent_193 (by decide) ?_
      refine lv_icmp_ge (tgt := 239) hx hb dL_isSent_196 (by decide) (fun c196 => ?_) (fun c196 => ?_)
      · have hf := if_t c196 hf
        refine lv_iconst (v := 0) hx hb dL_isSent_239 (by decide) ?_
        exact hR _ ls H locs _ _ _ _ (congrArg (fun q => q.1) (Option.some.inj hf)) (congrArg (fun q => (wLW cI cZ A (q.2.1) (q.2.2.1) (q.2.2.2.1) cu (q.2.2.2.2.1) (q.2.2.2.2.2.1) (q.2.2.2.2.2.2.1) (q.2.2.2.2.2.2.2))) (Option.some.inj hf)) (by decide) (by omega) (by omega) dL_isSent_240 hP hD hS
      · have hf := if_f c196 hf
        refine lv_iload hx hb dL_isSent_199 (lv_at hl 1 rfl) ?_
        refine lv_bipush (v := 10) hx hb dL_isSent_201 (by decide) ?_
        refine lv_icmp_eq (tgt := 235) hx hb dL_isSent_203 (by decide) (fun c203 => ?_) (fun c203 => ?_)
        · have hf := if_t c203 hf
          refine lv_iconst (v := 1) hx hb dL_isSent_235 (by decide) ?_
          refine lv_goto (tgt := 240) hx hb dL_isSent_236 (by decide) ?_
          exact hR _ ls H locs _ _ _ _ (congrArg (fun q => q.1) (Option.some.inj hf)) (congrArg (fun q => (wLW cI cZ A (q.2.1) (q.2.2.1) (q.2.2.2.1) cu (q.2.2.2.2.1) (q.2.2.2.2.2.1) (q.2.2.2.2.2.2.1) (q.2.2.2.2.2.2.2))) (Option.some.inj hf)) (by decide) (by omega) (by omega) dL_isSent_240 hP hD hS
        · have hf := if_f c203 hf
          refine lv_iload hx hb dL_isSent_206 (lv_at hl 0 rfl) ?_
          refine lv_sipush (v := (-1000)) hx hb dL_isSent_208 (by decide) ?_
          refine lv_icmp_eq (tgt := 235) hx hb dL_isSent_211 (by decide) (fun c211 => ?_) (fun c211 => ?_)
          · have hf := if_t c211 hf
            refine lv_iconst (v := 1) hx hb dL_isSent_235 (by decide) ?_
            refine lv_goto (tgt := 240) hx hb dL_isSent_236 (by decide) ?_
            exact hR _ ls H locs _ _ _ _ (congrArg (fun q => q.1) (Option.some.inj hf)) (congrArg (fun q => (wLW cI cZ A (q.2.1) (q.2.2.1) (q.2.2.2.1) cu (q.2.2.2.2.1) (q.2.2.2.2.2.1) (q.2.2.2.2.2.2.1) (q.2.2.2.2.2.2.2))) (Option.some.inj hf)) (by decide) (by omega) (by omega) dL_isSent_240 hP hD hS
          · have hf := if_f c211 hf
            refine lv_iload hx hb dL_isSent_214 (lv_at hl 0 rfl) ?_
            refine lv_sipush (v := (-2000)) hx hb dL_isSent_216 (by decide) ?_
            refine lv_icmp_eq (tgt := 235) hx hb dL_isSent_219 (by decide) (fun c219 => ?_) (fun c219 => ?_)
            · have hf := if_t c219 hf
              refine lv_iconst (v := 1) hx hb dL_isSent_235 (by decide) ?_
              refine lv_goto (tgt := 240) hx hb dL_isSent_236 (by decide) ?_
              exact hR _ ls H locs _ _ _ _ (congrArg (fun q => q.1) (Option.some.inj hf)) (congrArg (fun q => (wLW cI cZ A (q.2.1) (q.2.2.1) (q.2.2.2.1) cu (q.2.2.2.2.1) (q.2.2.2.2.2.1) (q.2.2.2.2.2.2.1) (q.2.2.2.2.2.2.2))) (Option.some.inj hf)) (by decide) (by omega) (by omega) dL_isSent_240 hP hD hS
            · have hf := if_f c219 hf
              refine lv_iload hx hb dL_isSent_222 (lv_at hl 0 rfl) ?_
              refine lv_iconst (v := (-1)) hx hb dL_isSent_224 (by decide) ?_
              refine lv_icmp_lt (tgt := 239) hx hb dL_isSent_225 (by decide) (fun c225 => ?_) (fun c225 => ?_)
              · have hf := if_t c225 hf
                refine lv_iconst (v := 0) hx hb dL_isSent_239 (by decide) ?_
                exact hR _ ls H locs _ _ _ _ (congrArg (fun q => q.1) (Option.some.inj hf)) (congrArg (fun q => (wLW cI cZ A (q.2.1) (q.2.2.1) (q.2.2.2.1) cu (q.2.2.2.2.1) (q.2.2.2.2.2.1) (q.2.2.2.2.2.2.1) (q.2.2.2.2.2.2.2))) (Option.some.inj hf)) (by decide) (by omega) (by omega) dL_isSent_240 hP hD hS
              · have hf := if_f c225 hf
                refine lv_iload hx hb dL_isSent_228 (lv_at hl 0 rfl) ?_
                refine lv_bipush (v := 13) hx hb dL_isSent_230 (by decide) ?_
                refine lv_icmp_ge (tgt := 239) hx hb dL_isSent_232 (by decide) (fun c232 => ?_) (fun c232 => ?_)
                · have hf := if_t c232 hf
                  refine lv_iconst (v := 0) hx hb dL_isSent_239 (by decide) ?_
                  exact hR _ ls H locs _ _ _ _ (congrArg (fun q => q.1) (Option.some.inj hf)) (congrArg (fun q => (wLW cI cZ A (q.2.1) (q.2.2.1) (q.2.2.2.1) cu (q.2.2.2.2.1) (q.2.2.2.2.2.1) (q.2.2.2.2.2.2.1) (q.2.2.2.2.2.2.2))) (Option.some.inj hf)) (by decide) (by omega) (by omega) dL_isSent_240 hP hD hS
                · have hf := if_f c232 hf
                  refine lv_iconst (v := 1) hx hb dL_isSent_235 (by decide) ?_
                  refine lv_goto (tgt := 240) hx hb dL_isSent_236 (by decide) ?_
                  exact hR _ ls H locs _ _ _ _ (congrArg (fun q => q.1) (Option.some.inj hf)) (congrArg (fun q => (wLW cI cZ A (q.2.1) (q.2.2.1) (q.2.2.2.1) cu (q.2.2.2.2.1) (q.2.2.2.2.2.1) (q.2.2.2.2.2.2.1) (q.2.2.2.2.2.2.2))) (Option.some.inj hf)) (by decide) (by omega) (by omega) dL_isSent_240 hP hD hS
  have B132 : ∀ (cs : St) (cw : St) (ct : St) (cl : St) (cb : St) (cp : St) (cg : St) (x6 : Int32) (x7 : Int32) (x10 : Int32) (y0 : Int32), fL_isSent_J132 cs cw ct cl cb cp cg x6 x7 x10 y0 = some res → Bk p l e ({ frames := 11, cells := 2, slots := 12, locals := 212 }) s m args below meth c Q A0 D 13 1 6 (wLW cI cZ A cs cw ct cu cl cb cp cg) [(0, .ref (A 0)), (3, .ref (A 57)), (6, .int x6), (7, .int x7), (10, .int x10)] 132 [.int y0] := by
    intro cs cw ct cl cb cp cg x6 x7 x10 y0 hf
    unfold fL_isSent_J132 at hf
    intro H locs hP hD hS ls hl
    refine lv_istore (lv' := [(11, .int y0), (0, .ref (A 0)), (3, .ref (A 57)), (6, .int x6), (7, .int x7), (10, .int x10)]) hx hb dL_isSent_132 hl (by decide) rfl (fun ls hl => ?_)
    refine lv_iload hx hb dL_isSent_134 (lv_at hl 0 rfl) ?_
    refine lv_if_ge (tgt := 152) hx hb dL_isSent_136 (by decide) (fun c136 => ?_) (fun c136 => ?_)
    · have hf := if_t c136 hf
      refine lv_aload_n hx hb dL_isSent_152 rfl (lv_at hl 2 rfl) ?_
      refine lv_iconst (v := 4) hx hb dL_isSent_153 (by decide) ?_
      refine lv_dup2_11 hx hb dL_isSent_154 rfl rfl ?_
      obtain ⟨c155, hf⟩ := ck_t hf
      refine va_iald (f := cg 4) hx hb hK hP 57 0 (gLW_57 _ _ _ _ _ _ _ _ _ _ _) rfl (inb_in c155) dL_isSent_155 ?_
      refine lv_iload hx hb dL_isSent_156 (lv_at hl 5 rfl) ?_
      refine lv_iadd hx hb dL_isSent_158 ?_
      obtain ⟨c159, hf⟩ := ck_t hf
      refine st_i hx hb hK hP hD hS 57 0 (sLW_57 _ _ _ _ _ _ _ _ _ _ _ _ _) (gLW_57 _ _ _ _ _ _ _ _ _ _ _) rfl c159 dL_isSent_159 (fun H locs hP hD hS => ?_)
      refine lv_aload_n hx hb dL_isSent_160 rfl (lv_at hl 1 rfl) ?_
      refine lv_bipush (v := 16) hx hb dL_isSent_161 (by decide) ?_
      refine lv_iload hx hb dL_isSent_163 (lv_at hl 3 rfl) ?_
      refine lv_iload hx hb dL_isSent_165 (lv_at hl 4 rfl) ?_
      refine lv_bipush (v := 10) hx hb dL_isSent_167 (by decide) ?_
      refine lv_icmp_ne (tgt := 176) hx hb dL_isSent_169 (by decide) (fun c169 => ?_) (fun c169 => ?_)
      · have hf := if_f c169 hf
        refine lv_iload hx hb dL_isSent_176 (lv_at hl 4 rfl) ?_
        refine W.widen (k := 1) (n := 6) (by omega) (by omega) ?_
        exact B178 _ _ _ _ _ _ _ _ _ _ _ _ hf H locs hP hD hS ls (lv_sub hl [4, 5] rfl)
      · have hf := if_t c169 hf
        refine lv_iconst (v := 0) hx hb dL_isSent_172 (by decide) ?_
        refine lv_goto (tgt := 178) hx hb dL_isSent_173 (by decide) ?_
        refine W.widen (k := 1) (n := 6) (by omega) (by omega) ?_
        exact B178 _ _ _ _ _ _ _ _ _ _ _ _ hf H locs hP hD hS ls (lv_sub hl [4, 5] rfl)
    · have hf := if_f c136 hf
      refine lv_iload hx hb dL_isSent_139 (lv_at hl 5 rfl) ?_
      refine lv_iload hx hb dL_isSent_141 (lv_at hl 0 rfl) ?_
      refine lv_icmp_ne (tgt := 150) hx hb dL_isSent_143 (by decide) (fun c143 => ?_) (fun c143 => ?_)
      · have hf := if_f c143 hf
        refine lv_iconst (v := 0) hx hb dL_isSent_150 (by decide) ?_
        exact hR _ ls H locs _ _ _ _ (congrArg (fun q => q.1) (Option.some.inj hf)) (congrArg (fun q => (wLW cI cZ A (q.2.1) (q.2.2.1) (q.2.2.2.1) cu (q.2.2.2.2.1) (q.2.2.2.2.2.1) (q.2.2.2.2.2.2.1) (q.2.2.2.2.2.2.2))) (Option.some.inj hf)) (by decide) (by omega) (by omega) dL_isSent_151 hP hD hS
      · have hf := if_t c143 hf
        refine lv_iconst (v := 1) hx hb dL_isSent_146 (by decide) ?_
        refine lv_goto (tgt := 151) hx hb dL_isSent_147 (by decide) ?_
        exact hR _ ls H locs _ _ _ _ (congrArg (fun q => q.1) (Option.some.inj hf)) (congrArg (fun q => (wLW cI cZ A (q.2.1) (q.2.2.1) (q.2.2.2.1) cu (q.2.2.2.2.1) (q.2.2.2.2.2.1) (q.2.2.2.2.2.2.1) (q.2.2.2.2.2.2.2))) (Option.some.inj hf)) (by decide) (by omega) (by omega) dL_isSent_151 hP hD hS
  have B118 : ∀ (cs : St) (cw : St) (ct : St) (cl : St) (cb : St) (cp : St) (cg : St) (x6 : Int32) (x7 : Int32) (x10 : Int32), fL_isSent_J118 cs cw ct cl cb cp cg x6 x7 x10 = some res → Bk p l e ({ frames := 11, cells := 2, slots := 12, locals := 212 }) s m args below meth c Q A0 D 13 1 6 (wLW cI cZ A cs cw ct cu cl cb cp cg) [(0, .ref (A 0)), (2, .ref (A 55)), (3, .ref (A 57)), (6, .int x6), (7, .int x7), (10, .int x10)] 118 [] := by
    intro cs cw ct cl cb cp cg x6 x7 x10 hf
    unfold fL_isSent_J118 at hf
    intro H locs hP hD hS ls hl
    refine lv_aload_n hx hb dL_isSent_118 rfl (lv_at hl 1 rfl) ?_
    refine lv_iload hx hb dL_isSent_119 (lv_at hl 3 rfl) ?_
    obtain ⟨c121, hf⟩ := ck_t hf
    refine va_iald (f := cg 2) hx hb hK hP 55 0 (gLW_55 _ _ _ _ _ _ _ _ _ _ _) rfl (inb_in c121) dL_isSent_121 ?_
    refine lv_if_ge (tgt := 131) hx hb dL_isSent_122 (by decide) (fun c122 => ?_) (fun c122 => ?_)
    · have hf := if_t c122 hf
      refine lv_iconst (v := 0) hx hb dL_isSent_131 (by decide) ?_
      refine W.widen (k := 1) (n := 6) (by omega) (by omega) ?_
      exact B132 _ _ _ _ _ _ _ _ _ _ _ hf H locs hP hD hS ls (lv_sub hl [0, 2, 3, 4, 5] rfl)
    · have hf := if_f c122 hf
      refine lv_sipush (v := (-1000)) hx hb dL_isSent_125 (by decide) ?_
      refine lv_goto (tgt := 132) hx hb dL_isSent_128 (by decide) ?_
      refine W.widen (k := 1) (n := 6) (by omega) (by omega) ?_
      exact B132 _ _ _ _ _ _ _ _ _ _ _ hf H locs hP hD hS ls (lv_sub hl [0, 2, 3, 4, 5] rfl)
  have B57 : ∀ (cs : St) (cw : St) (ct : St) (cl : St) (cb : St) (cp : St) (cg : St) (x6 : Int32) (x7 : Int32) (x8 : Int32) (y0 : Int32), fL_isSent_J57 cs cw ct cl cb cp cg x6 x7 x8 y0 = some res → Bk p l e ({ frames := 11, cells := 2, slots := 12, locals := 212 }) s m args below meth c Q A0 D 13 0 0 (wLW cI cZ A cs cw ct cu cl cb cp cg) [(0, .ref (A 0)), (2, .ref (A 55)), (3, .ref (A 57)), (6, .int x6), (7, .int x7), (8, .int x8)] 57 [.int y0] := by
    intro cs cw ct cl cb cp cg x6 x7 x8 y0 hf
    unfold fL_isSent_J57 at hf
    intro H locs hP hD hS ls hl
    refine lv_istore (lv' := [(9, .int y0), (0, .ref (A 0)), (2, .ref (A 55)), (3, .ref (A 57)), (6, .int x6), (7, .int x7), (8, .int x8)]) hx hb dL_isSent_57 hl (by decide) rfl (fun ls hl => ?_)
    refine lv_aload_n hx hb dL_isSent_59 rfl (lv_at hl 1 rfl) ?_
    refine lv_bipush (v := 10) hx hb dL_isSent_60 (by decide) ?_
    refine lv_iload hx hb dL_isSent_62 (lv_at hl 4 rfl) ?_
    refine lv_iload hx hb dL_isSent_64 (lv_at hl 5 rfl) ?_
    refine lv_iload hx hb dL_isSent_66 (lv_at hl 6 rfl) ?_
    refine lv_iload hx hb dL_isSent_68 (lv_at hl 0 rfl) ?_
    refine lv_iconst (v := 0) hx hb dL_isSent_70 (by decide) ?_
    obtain ⟨q71, h71, hf⟩ := bd_t hf
    refine cl_i (vx_runSW (As := [.ref (A 0), .int 10, .int x6, .int x7, .int x8, .int y0, .int 0]) (rest := []) S (mL_does l hfl D cI cZ A cs cw ct cu cl cb cp cg 10 x6 x7 x8 y0 0 H.size q71 h71) (vx_cwSW 7 hts gL_isSent_L_does rfl rfl rfl (by decide +kernel) ⟨Nat.le_of_ble_eq_true rfl, Nat.le_of_ble_eq_true rfl⟩) (xP_S (Cut.self _ []) hP hD hS hA hK hG hX hZ) rfl rfl hl.1 rfl (lv_room (Nat.le_of_ble_eq_true rfl)) dL_isSent_71 ⟨by show _ ≤ 2; omega, by show _ ≤ 12; omega⟩) (Cut.self _ _) hP hD hS hA (fun H locs hP hD hS => ?_)
    refine lv_istore (lv' := [(10, .int q71.1), (9, .int y0), (0, .ref (A 0)), (2, .ref (A 55)), (3, .ref (A 57)), (6, .int x6), (7, .int x7), (8, .int x8)]) hx hb dL_isSent_74 hl (by decide) rfl (fun ls hl => ?_)
    refine lv_iload hx hb dL_isSent_76 (lv_at hl 6 rfl) ?_
    refine lv_bipush (v := 11) hx hb dL_isSent_78 (by decide) ?_
    refine lv_icmp_ne (tgt := 89) hx hb dL_isSent_80 (by decide) (fun c80 => ?_) (fun c80 => ?_)
    · have hf := if_f c80 hf
      refine lv_iload hx hb dL_isSent_89 (lv_at hl 5 rfl) ?_
      refine lv_iload hx hb dL_isSent_91 (lv_at hl 6 rfl) ?_
      refine lv_icmp_eq (tgt := 112) hx hb dL_isSent_93 (by decide) (fun c93 => ?_) (fun c93 => ?_)
      · have hf := if_t c93 hf
        refine lv_sipush (v := (-2000)) hx hb dL_isSent_112 (by decide) ?_
        refine lv_goto (tgt := 132) hx hb dL_isSent_115 (by decide) ?_
        refine W.widen (k := 1) (n := 6) (by omega) (by omega) ?_
        exact B132 _ _ _ _ _ _ _ _ _ _ _ hf H locs hP hD hS ls (lv_sub hl [2, 4, 5, 6, 0] rfl)
      · have hf := if_f c93 hf
        refine lv_iload hx hb dL_isSent_96 (lv_at hl 7 rfl) ?_
        refine lv_iconst (v := 4) hx hb dL_isSent_98 (by decide) ?_
        refine lv_icmp_eq (tgt := 112) hx hb dL_isSent_99 (by decide) (fun c99 => ?_) (fun c99 => ?_)
        · have hf := if_t c99 hf
          refine lv_sipush (v := (-2000)) hx hb dL_isSent_112 (by decide) ?_
          refine lv_goto (tgt := 132) hx hb dL_isSent_115 (by decide) ?_
          refine W.widen (k := 1) (n := 6) (by omega) (by omega) ?_
          exact B132 _ _ _ _ _ _ _ _ _ _ _ hf H locs hP hD hS ls (lv_sub hl [2, 4, 5, 6, 0] rfl)
        · have hf := if_f c99 hf
          refine lv_iload hx hb dL_isSent_102 (lv_at hl 7 rfl) ?_
          refine lv_if_ne (tgt := 118) hx hb dL_isSent_104 (by decide) (fun c104 => ?_) (fun c104 => ?_)
          · have hf := if_f c104 hf
            refine W.widen (k := 1) (n := 6) (by omega) (by omega) ?_
            exact B118 _ _ _ _ _ _ _ _ _ _ hf H locs hP hD hS ls (lv_sub hl [2, 3, 4, 5, 6, 0] rfl)
          · have hf := if_t c104 hf
            refine lv_iload hx hb dL_isSent_107 (lv_at hl 1 rfl) ?_
            refine lv_if_le (tgt := 118) hx hb dL_isSent_109 (by decide) (fun c109 => ?_) (fun c109 => ?_)
            · have hf := if_t c109 hf
              refine W.widen (k := 1) (n := 6) (by omega) (by omega) ?_
              exact B118 _ _ _ _ _ _ _ _ _ _ hf H locs hP hD hS ls (lv_sub hl [2, 3, 4, 5, 6, 0] rfl)
            · have hf := if_f c109 hf
              refine lv_sipush (v := (-2000)) hx hb dL_isSent_112 (by decide) ?_
              refine lv_goto (tgt := 132) hx hb dL_isSent_115 (by decide) ?_
              refine W.widen (k := 1) (n := 6) (by omega) (by omega) ?_
              exact B132 _ _ _ _ _ _ _ _ _ _ _ hf H locs hP hD hS ls (lv_sub hl [2, 4, 5, 6, 0] rfl)
    · have hf := if_t c80 hf
      refine lv_sipush (v := (-3000)) hx hb dL_isSent_83 (by decide) ?_
      refine lv_goto (tgt := 132) hx hb dL_isSent_86 (by decide) ?_
      refine W.widen (k := 1) (n := 6) (by omega) (by omega) ?_
      exact B132 _ _ _ _ _ _ _ _ _ _ _ hf H locs hP hD hS ls (lv_sub hl [2, 4, 5, 6, 0] rfl)
  have B34 : ∀ (cs : St) (cw : St) (ct : St) (cl : St) (cb : St) (cp : St) (cg : St) (x5 : Int32) (x6 : Int32) (x7 : Int32) (y0 : Int32), fL_isSent_J34 cs cw ct cl cb cp cg x5 x6 x7 y0 = some res → Bk p l e ({ frames := 11, cells := 2, slots := 12, locals := 212 }) s m args below meth c Q A0 D 13 0 0 (wLW cI cZ A cs cw ct cu cl cb cp cg) [(0, .ref (A 0)), (2, .ref (A 55)), (3, .ref (A 57)), (5, .int x5), (6, .int x6), (7, .int x7)] 34 [.int y0] := by
    intro cs cw ct cl cb cp cg x5 x6 x7 y0 hf
    unfold fL_isSent_J34 at hf
    intro H locs hP hD hS ls hl
    refine lv_istore (lv' := [(8, .int y0), (0, .ref (A 0)), (2, .ref (A 55)), (3, .ref (A 57)), (5, .int x5), (6, .int x6), (7, .int x7)]) hx hb dL_isSent_34 hl (by decide) rfl (fun ls hl => ?_)
    refine lv_iload hx hb dL_isSent_36 (lv_at hl 4 rfl) ?_
    refine lv_bipush (v := 25) hx hb dL_isSent_38 (by decide) ?_
    refine lv_idiv hx hb dL_isSent_40 (by decide) ?_
    refine lv_iconst (v := 4) hx hb dL_isSent_41 (by decide) ?_
    refine lv_irem hx hb dL_isSent_42 (by decide) ?_
    refine lv_if_ne (tgt := 56) hx hb dL_isSent_43 (by decide) (fun c43 => ?_) (fun c43 => ?_)
    · have hf := if_f c43 hf
      refine lv_iconst (v := 0) hx hb dL_isSent_56 (by decide) ?_
      refine W.widen (k := 0) (n := 0) (by omega) (by omega) ?_
      exact B57 _ _ _ _ _ _ _ _ _ _ _ hf H locs hP hD hS ls (lv_sub hl [1, 2, 3, 5, 6, 0] rfl)
    · have hf := if_t c43 hf
      refine lv_iload hx hb dL_isSent_46 (lv_at hl 4 rfl) ?_
      refine lv_bipush (v := 100) hx hb dL_isSent_48 (by decide) ?_
      refine lv_idiv hx hb dL_isSent_50 (by decide) ?_
      refine lv_iconst (v := 4) hx hb dL_isSent_51 (by decide) ?_
      refine lv_irem hx hb dL_isSent_52 (by decide) ?_
      refine lv_goto (tgt := 57) hx hb dL_isSent_53 (by decide) ?_
      refine W.widen (k := 0) (n := 0) (by omega) (by omega) ?_
      exact B57 _ _ _ _ _ _ _ _ _ _ _ hf H locs hP hD hS ls (lv_sub hl [1, 2, 3, 5, 6, 0] rfl)
  intro H locs hP hD hS ls hl
  have hl : lv_has ls 13 [(0, .ref (A 0)), (1, .ref (A 53)), (2, .ref (A 55)), (3, .ref (A 57)), (4, .int x4), (5, .int x5)] := hl
  unfold fL_isSent at hf
  refine lv_iload hx hb dL_isSent_0 (lv_at hl 4 rfl) ?_
  refine lv_bipush (v := 10) hx hb dL_isSent_2 (by decide) ?_
  refine lv_irem hx hb dL_isSent_4 (by decide) ?_
  refine lv_istore (lv' := [(6, .int (x4 - x4 / 10 * 10)), (0, .ref (A 0)), (1, .ref (A 53)), (2, .ref (A 55)), (3, .ref (A 57)), (4, .int x4), (5, .int x5)]) hx hb dL_isSent_5 hl (by decide) rfl (fun ls hl => ?_)
  refine lv_iload hx hb dL_isSent_7 (lv_at hl 5 rfl) ?_
  refine lv_bipush (v := 10) hx hb dL_isSent_9 (by decide) ?_
  refine lv_idiv hx hb dL_isSent_11 (by decide) ?_
  refine lv_bipush (v := 12) hx hb dL_isSent_12 (by decide) ?_
  refine lv_irem hx hb dL_isSent_14 (by decide) ?_
  refine lv_istore (lv' := [(7, .int ((x4 / 10) - (x4 / 10) / 12 * 12)), (6, .int (x4 - x4 / 10 * 10)), (0, .ref (A 0)), (1, .ref (A 53)), (2, .ref (A 55)), (3, .ref (A 57)), (4, .int x4), (5, .int x5)]) hx hb dL_isSent_15 hl (by decide) rfl (fun ls hl => ?_)
  refine lv_iload hx hb dL_isSent_17 (lv_at hl 7 rfl) ?_
  refine lv_iconst (v := 5) hx hb dL_isSent_19 (by decide) ?_
  refine lv_irem hx hb dL_isSent_20 (by decide) ?_
  refine lv_if_ne (tgt := 33) hx hb dL_isSent_21 (by decide) (fun c21 => ?_) (fun c21 => ?_)
  · have hf := if_f c21 hf
    refine lv_iconst (v := 0) hx hb dL_isSent_33 (by decide) ?_
    refine W.widen (k := 0) (n := 0) (by omega) (by omega) ?_
    exact B34 _ _ _ _ _ _ _ _ _ _ _ hf H locs hP hD hS ls (lv_sub hl [2, 4, 5, 7, 1, 0] rfl)
  · have hf := if_t c21 hf
    refine lv_iload hx hb dL_isSent_24 (lv_at hl 7 rfl) ?_
    refine lv_iconst (v := 5) hx hb dL_isSent_26 (by decide) ?_
    refine lv_idiv hx hb dL_isSent_27 (by decide) ?_
    refine lv_iconst (v := 5) hx hb dL_isSent_28 (by decide) ?_
    refine lv_irem hx hb dL_isSent_29 (by decide) ?_
    refine lv_goto (tgt := 34) hx hb dL_isSent_30 (by decide) ?_
    refine W.widen (k := 0) (n := 0) (by omega) (by omega) ?_
    exact B34 _ _ _ _ _ _ _ _ _ _ _ hf H locs hP hD hS ls (lv_sub hl [2, 4, 5, 7, 1, 0] rfl)

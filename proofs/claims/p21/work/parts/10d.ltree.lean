set_option maxHeartbeats 16000000 in
set_option maxRecDepth 100000 in
theorem mL_isTree (l : Launch) (hfl : l.stackTraces = false) (D : va_G) (cI cZ : ClassId) (A : Nat → Nat) (cs : St) (cw : St) (ct : St) (cu : St) (cl : St) (cb : St) (cp : St) (cg : St) (sz : Nat) (res : Int32) (hf : fL_isTree cs ct cb cg = some res) : Met l yL_isTree wsL_isTree ({ frames := 11, cells := 8, slots := 48, locals := 211 }) (xP D (tysX cI cZ) [.ref (A 0), .ref (A 53), .ref (A 54), .ref (A 56)] (wLW cI cZ A cs cw ct cu cl cb cp cg) sz) (mQi D res (wLW cI cZ A cs cw ct cu cl cb cp cg) (wLW cI cZ A cs cw ct cu cl cb cp cg) sz) 8 48 (va_A (wLW cI cZ A cs cw ct cu cl cb cp cg) sz) := by
  refine mkL (cc := cL_isTree) (maxL := 11) (by decide +kernel) rfl rfl (Nat.le_of_ble_eq_true rfl) ?_
  intro p e s m args below meth c A0 Q S hK hG hX hZ hA hR
  obtain ⟨hx, hb, hml, hown, hts⟩ := id S
  have B393 : ∀ (x4 : Int32) (x5 : Int32) (x6 : Int32), fL_isTree_J393 cs ct cb cg x4 x5 x6 = some res → Bk p l e ({ frames := 11, cells := 8, slots := 48, locals := 211 }) s m args below meth c Q A0 D 11 8 48 (wLW cI cZ A cs cw ct cu cl cb cp cg) [(4, .int x4), (5, .int x5), (6, .int x6)] 393 [] := by
    intro x4 x5 x6 hf
    unfold fL_isTree_J393 at hf
    intro H locs hP hD hS ls hl
    refine lv_iload hx hb dL_isTree_393 (lv_at hl 0 rfl) ?_
    refine lv_if_eq (tgt := 412) hx hb dL_isTree_395 (by decide) (fun c395 => ?_) (fun c395 => ?_)
    · have hf := if_t c395 hf
      refine lv_iconst (v := 0) hx hb dL_isTree_412 (by decide) ?_
      exact hR _ ls H locs _ _ _ _ (congrArg (fun q => q) (Option.some.inj hf)) rfl (by decide) (by omega) (by omega) dL_isTree_413 hP hD hS
    · have hf := if_f c395 hf
      refine lv_iload hx hb dL_isTree_398 (lv_at hl 1 rfl) ?_
      refine lv_bipush (v := 6) hx hb dL_isTree_400 (by decide) ?_
      refine lv_iload hx hb dL_isTree_402 (lv_at hl 2 rfl) ?_
      refine lv_isub hx hb dL_isTree_404 ?_
      refine lv_icmp_ne (tgt := 412) hx hb dL_isTree_405 (by decide) (fun c405 => ?_) (fun c405 => ?_)
      · have hf := if_f c405 hf
        refine lv_iconst (v := 0) hx hb dL_isTree_412 (by decide) ?_
        exact hR _ ls H locs _ _ _ _ (congrArg (fun q => q) (Option.some.inj hf)) rfl (by decide) (by omega) (by omega) dL_isTree_413 hP hD hS
      · have hf := if_t c405 hf
        refine lv_iconst (v := 1) hx hb dL_isTree_408 (by decide) ?_
        refine lv_goto (tgt := 413) hx hb dL_isTree_409 (by decide) ?_
        exact hR _ ls H locs _ _ _ _ (congrArg (fun q => q) (Option.some.inj hf)) rfl (by decide) (by omega) (by omega) dL_isTree_413 hP hD hS
  have B324 : ∀ (x6 : Int32) (x7 : Int32) (x8 : Int32) (y0 : Int32) (y1 : Int32) (k230 : (Int32 × Int32 × Int32) → Option (Int32)) (hk230 : ∀ a230, k230 a230 = some res → Bk p l e ({ frames := 11, cells := 8, slots := 48, locals := 211 }) s m args below meth c Q A0 D 11 8 48 (wLW cI cZ A cs cw ct cu cl cb cp cg) [(0, .ref (A 0)), (1, .ref (A 53)), (4, .int (a230.1)), (5, .int (a230.2.1)), (6, .int x6), (7, .int (a230.2.2))] 230 []), fL_isTree_J324 k230 cs ct cb cg x6 x7 x8 y0 y1 = some res → Bk p l e ({ frames := 11, cells := 8, slots := 48, locals := 211 }) s m args below meth c Q A0 D 11 8 48 (wLW cI cZ A cs cw ct cu cl cb cp cg) [(0, .ref (A 0)), (1, .ref (A 53)), (6, .int x6), (7, .int x7), (8, .int x8)] 324 [.int y0, .int y1] := by
    intro x6 x7 x8 y0 y1 k230 hk230 hf
    unfold fL_isTree_J324 at hf
    intro H locs hP hD hS ls hl
    refine lv_iadd hx hb dL_isTree_324 ?_
    refine lv_istore (lv' := [(5, .int (y1 + y0)), (0, .ref (A 0)), (1, .ref (A 53)), (6, .int x6), (7, .int x7), (8, .int x8)]) hx hb dL_isTree_325 hl (by decide) rfl (fun ls hl => ?_)
    refine lv_iload hx hb dL_isTree_327 (lv_at hl 5 rfl) ?_
    refine lv_if_eq (tgt := 380) hx hb dL_isTree_329 (by decide) (fun c329 => ?_) (fun c329 => ?_)
    · have hf := if_t c329 hf
      refine lv_iconst (v := 1) hx hb dL_isTree_380 (by decide) ?_
      refine lv_goto (tgt := 385) hx hb dL_isTree_381 (by decide) ?_
      refine lv_istore (lv' := [(4, .int 1), (5, .int (y1 + y0)), (0, .ref (A 0)), (1, .ref (A 53)), (6, .int x6), (7, .int x7), (8, .int x8)]) hx hb dL_isTree_385 hl (by decide) rfl (fun ls hl => ?_)
      refine lv_iinc (v := x7 + 1) (lv' := [(7, .int (x7 + 1)), (4, .int 1), (5, .int (y1 + y0)), (0, .ref (A 0)), (1, .ref (A 53)), (6, .int x6), (8, .int x8)]) hx hb dL_isTree_387 hl (k := 5) rfl rfl (by decide) rfl (fun ls hl => ?_)
      refine lv_goto (tgt := 230) hx hb dL_isTree_390 (by decide) ?_
      refine W.widen (k := 8) (n := 48) (by omega) (by omega) ?_
      exact hk230 _ hf H locs hP hD hS ls (lv_sub hl [3, 4, 1, 2, 5, 0] rfl)
    · have hf := if_f c329 hf
      refine lv_aload_n hx hb dL_isTree_332 rfl (lv_at hl 1 rfl) ?_
      refine lv_aload_n hx hb dL_isTree_333 rfl (lv_at hl 2 rfl) ?_
      refine lv_iload hx hb dL_isTree_334 (lv_at hl 4 rfl) ?_
      obtain ⟨q336, h336, hf⟩ := bd_t hf
      refine cl_i (va_runS (As := [.ref (A 0), .ref (A 53), .int x7]) (rest := []) S (mL_isPassable l hfl D cI cZ A cs cw ct cu cl cb cp cg x7 H.size q336 h336) (va_cwS 3 hts gL_isTree_L_isPassable rfl rfl rfl (by decide +kernel) ⟨Nat.le_of_ble_eq_true rfl, Nat.le_of_ble_eq_true rfl⟩) (xP_S (Cut.self _ []) hP hD hS hA hK hG hX hZ) rfl rfl hl.1 rfl (lv_room (Nat.le_of_ble_eq_true rfl)) dL_isTree_336 ⟨by show _ ≤ 8; omega, by show _ ≤ 48; omega⟩) (Cut.self _ _) hP hD hS hA (fun H locs hP hD hS => ?_)
      refine lv_if_eq (tgt := 380) hx hb dL_isTree_339 (by decide) (fun c339 => ?_) (fun c339 => ?_)
      · have hf := if_t c339 hf
        refine lv_iconst (v := 1) hx hb dL_isTree_380 (by decide) ?_
        refine lv_goto (tgt := 385) hx hb dL_isTree_381 (by decide) ?_
        refine lv_istore (lv' := [(4, .int 1), (5, .int (y1 + y0)), (0, .ref (A 0)), (1, .ref (A 53)), (6, .int x6), (7, .int x7), (8, .int x8)]) hx hb dL_isTree_385 hl (by decide) rfl (fun ls hl => ?_)
        refine lv_iinc (v := x7 + 1) (lv' := [(7, .int (x7 + 1)), (4, .int 1), (5, .int (y1 + y0)), (0, .ref (A 0)), (1, .ref (A 53)), (6, .int x6), (8, .int x8)]) hx hb dL_isTree_387 hl (k := 5) rfl rfl (by decide) rfl (fun ls hl => ?_)
        refine lv_goto (tgt := 230) hx hb dL_isTree_390 (by decide) ?_
        refine W.widen (k := 8) (n := 48) (by omega) (by omega) ?_
        exact hk230 _ hf H locs hP hD hS ls (lv_sub hl [3, 4, 1, 2, 5, 0] rfl)
      · have hf := if_f c339 hf
        refine lv_aload_n hx hb dL_isTree_342 rfl (lv_at hl 1 rfl) ?_
        refine lv_iload hx hb dL_isTree_343 (lv_at hl 4 rfl) ?_
        refine lv_iconst (v := 5) hx hb dL_isTree_345 (by decide) ?_
        refine lv_idiv hx hb dL_isTree_346 (by decide) ?_
        refine lv_iload hx hb dL_isTree_347 (lv_at hl 4 rfl) ?_
        refine lv_iconst (v := 5) hx hb dL_isTree_349 (by decide) ?_
        refine lv_irem hx hb dL_isTree_350 (by decide) ?_
        refine lv_iconst (v := 1) hx hb dL_isTree_351 (by decide) ?_
        obtain ⟨q352, h352, hf⟩ := bn_t hf
        refine cl_i (va_runV (As := [.int (x7 / 5), .int (x7 - x7 / 5 * 5), .int 1]) (rest := []) S (mX5_port l D cI cZ (aLW_X5_0_1_2_3_4_5_6 A) cs cw ct cu cl cb cp (x7 / 5) (x7 - x7 / 5 * 5) 1 H.size q352 h352) (cwV 3 hts gL_isTree_X5_port rfl rfl rfl (by decide +kernel) ⟨Nat.le_of_ble_eq_true rfl, Nat.le_of_ble_eq_true rfl⟩) (mP_V (ci := 5) (cutLW_X5_0_1_2_3_4_5_6 _ _ _ _ _ _ _ _ _ _ _ st0 st0 st0 st0 st0 st0 st0) hP hD hK hG rfl (gX5_0 _ _ _ _ _ _ _ _ _ _)) rfl rfl hl.1 rfl (lv_room (Nat.le_of_ble_eq_true rfl)) dL_isTree_352 ⟨by show _ ≤ 8; omega, by show _ ≤ 48; omega⟩) (cutLW_X5_0_1_2_3_4_5_6 _ _ _ _ _ _ _ _ _ _ _ _ _ _ _ _ _ _) hP hD hS hA (fun H locs hP hD hS => ?_)
        refine lv_iconst (v := 2) hx hb dL_isTree_355 (by decide) ?_
        refine lv_icmp_eq (tgt := 380) hx hb dL_isTree_356 (by decide) (fun c356 => ?_) (fun c356 => ?_)
        · have hf := if_t c356 hf
          refine lv_iconst (v := 1) hx hb dL_isTree_380 (by decide) ?_
          refine lv_goto (tgt := 385) hx hb dL_isTree_381 (by decide) ?_
          refine lv_istore (lv' := [(4, .int 1), (5, .int (y1 + y0)), (0, .ref (A 0)), (1, .ref (A 53)), (6, .int x6), (7, .int x7), (8, .int x8)]) hx hb dL_isTree_385 hl (by decide) rfl (fun ls hl => ?_)
          refine lv_iinc (v := x7 + 1) (lv' := [(7, .int (x7 + 1)), (4, .int 1), (5, .int (y1 + y0)), (0, .ref (A 0)), (1, .ref (A 53)), (6, .int x6), (8, .int x8)]) hx hb dL_isTree_387 hl (k := 5) rfl rfl (by decide) rfl (fun ls hl => ?_)
          refine lv_goto (tgt := 230) hx hb dL_isTree_390 (by decide) ?_
          refine W.widen (k := 8) (n := 48) (by omega) (by omega) ?_
          exact hk230 _ hf H locs hP hD hS ls (lv_sub hl [3, 4, 1, 2, 5, 0] rfl)
        · have hf := if_f c356 hf
          refine lv_aload_n hx hb dL_isTree_359 rfl (lv_at hl 1 rfl) ?_
          refine lv_aload_n hx hb dL_isTree_360 rfl (lv_at hl 2 rfl) ?_
          refine lv_iload hx hb dL_isTree_361 (lv_at hl 4 rfl) ?_
          obtain ⟨c363, hf⟩ := ck_t hf
          refine va_iald (f := cg 0) hx hb hK hP 53 0 (gLW_53 _ _ _ _ _ _ _ _ _ _ _) rfl (inb_in c363) dL_isTree_363 ?_
          refine lv_iconst (v := 5) hx hb dL_isTree_364 (by decide) ?_
          refine lv_idiv hx hb dL_isTree_365 (by decide) ?_
          refine lv_aload_n hx hb dL_isTree_366 rfl (lv_at hl 2 rfl) ?_
          refine lv_iload hx hb dL_isTree_367 (lv_at hl 4 rfl) ?_
          obtain ⟨c369, hf⟩ := ck_t hf
          refine va_iald (f := cg 0) hx hb hK hP 53 0 (gLW_53 _ _ _ _ _ _ _ _ _ _ _) rfl (inb_in c369) dL_isTree_369 ?_
          refine lv_iconst (v := 5) hx hb dL_isTree_370 (by decide) ?_
          refine lv_irem hx hb dL_isTree_371 (by decide) ?_
          refine lv_iconst (v := 1) hx hb dL_isTree_372 (by decide) ?_
          obtain ⟨q373, h373, hf⟩ := bn_t hf
          refine cl_i (va_runV (As := [.int ((cg 0 x7.toNatClampNeg) / 5), .int ((cg 0 x7.toNatClampNeg) - (cg 0 x7.toNatClampNeg) / 5 * 5), .int 1]) (rest := []) S (mX5_port l D cI cZ (aLW_X5_0_1_2_3_4_5_6 A) cs cw ct cu cl cb cp ((cg 0 x7.toNatClampNeg) / 5) ((cg 0 x7.toNatClampNeg) - (cg 0 x7.toNatClampNeg) / 5 * 5) 1 H.size q373 h373) (cwV 3 hts gL_isTree_X5_port rfl rfl rfl (by decide +kernel) ⟨Nat.le_of_ble_eq_true rfl, Nat.le_of_ble_eq_true rfl⟩) (mP_V (ci := 5) (cutLW_X5_0_1_2_3_4_5_6 _ _ _ _ _ _ _ _ _ _ _ st0 st0 st0 st0 st0 st0 st0) hP hD hK hG rfl (gX5_0 _ _ _ _ _ _ _ _ _ _)) rfl rfl hl.1 rfl (lv_room (Nat.le_of_ble_eq_true rfl)) dL_isTree_373 ⟨by show _ ≤ 8; omega, by show _ ≤ 48; omega⟩) (cutLW_X5_0_1_2_3_4_5_6 _ _ _ _ _ _ _ _ _ _ _ _ _ _ _ _ _ _) hP hD hS hA (fun H locs hP hD hS => ?_)
          refine lv_iconst (v := 2) hx hb dL_isTree_376 (by decide) ?_
          refine lv_icmp_ne (tgt := 384) hx hb dL_isTree_377 (by decide) (fun c377 => ?_) (fun c377 => ?_)
          · have hf := if_f c377 hf
            refine lv_iconst (v := 0) hx hb dL_isTree_384 (by decide) ?_
            refine lv_istore (lv' := [(4, .int 0), (5, .int (y1 + y0)), (0, .ref (A 0)), (1, .ref (A 53)), (6, .int x6), (7, .int x7), (8, .int x8)]) hx hb dL_isTree_385 hl (by decide) rfl (fun ls hl => ?_)
            refine lv_iinc (v := x7 + 1) (lv' := [(7, .int (x7 + 1)), (4, .int 0), (5, .int (y1 + y0)), (0, .ref (A 0)), (1, .ref (A 53)), (6, .int x6), (8, .int x8)]) hx hb dL_isTree_387 hl (k := 5) rfl rfl (by decide) rfl (fun ls hl => ?_)
            refine lv_goto (tgt := 230) hx hb dL_isTree_390 (by decide) ?_
            refine W.widen (k := 8) (n := 48) (by omega) (by omega) ?_
            exact hk230 _ hf H locs hP hD hS ls (lv_sub hl [3, 4, 1, 2, 5, 0] rfl)
          · have hf := if_t c377 hf
            refine lv_iconst (v := 1) hx hb dL_isTree_380 (by decide) ?_
            refine lv_goto (tgt := 385) hx hb dL_isTree_381 (by decide) ?_
            refine lv_istore (lv' := [(4, .int 1), (5, .int (y1 + y0)), (0, .ref (A 0)), (1, .ref (A 53)), (6, .int x6), (7, .int x7), (8, .int x8)]) hx hb dL_isTree_385 hl (by decide) rfl (fun ls hl => ?_)
            refine lv_iinc (v := x7 + 1) (lv' := [(7, .int (x7 + 1)), (4, .int 1), (5, .int (y1 + y0)), (0, .ref (A 0)), (1, .ref (A 53)), (6, .int x6), (8, .int x8)]) hx hb dL_isTree_387 hl (k := 5) rfl rfl (by decide) rfl (fun ls hl => ?_)
            refine lv_goto (tgt := 230) hx hb dL_isTree_390 (by decide) ?_
            refine W.widen (k := 8) (n := 48) (by omega) (by omega) ?_
            exact hk230 _ hf H locs hP hD hS ls (lv_sub hl [3, 4, 1, 2, 5, 0] rfl)
  have B323 : ∀ (x6 : Int32) (x7 : Int32) (x8 : Int32) (y0 : Int32) (k230 : (Int32 × Int32 × Int32) → Option (Int32)) (hk230 : ∀ a230, k230 a230 = some res → Bk p l e ({ frames := 11, cells := 8, slots := 48, locals := 211 }) s m args below meth c Q A0 D 11 8 48 (wLW cI cZ A cs cw ct cu cl cb cp cg) [(0, .ref (A 0)), (1, .ref (A 53)), (4, .int (a230.1)), (5, .int (a230.2.1)), (6, .int x6), (7, .int (a230.2.2))] 230 []), fL_isTree_J323 k230 cs ct cb cg x6 x7 x8 y0 = some res → Bk p l e ({ frames := 11, cells := 8, slots := 48, locals := 211 }) s m args below meth c Q A0 D 11 8 48 (wLW cI cZ A cs cw ct cu cl cb cp cg) [(0, .ref (A 0)), (1, .ref (A 53)), (6, .int x6), (7, .int x7), (8, .int x8)] 323 [.int y0] := by
    intro x6 x7 x8 y0 k230 hk230 hf
    unfold fL_isTree_J323 at hf
    intro H locs hP hD hS ls hl
    refine lv_iconst (v := 0) hx hb dL_isTree_323 (by decide) ?_
    refine W.widen (k := 8) (n := 48) (by omega) (by omega) ?_
    exact B324 _ _ _ _ _ k230 hk230 hf H locs hP hD hS ls (lv_sub hl [0, 1, 2, 3, 4] rfl)
  have B263 : ∀ (x5 : Int32) (x6 : Int32) (x7 : Int32) (y0 : Int32) (k230 : (Int32 × Int32 × Int32) → Option (Int32)) (hk230 : ∀ a230, k230 a230 = some res → Bk p l e ({ frames := 11, cells := 8, slots := 48, locals := 211 }) s m args below meth c Q A0 D 11 8 48 (wLW cI cZ A cs cw ct cu cl cb cp cg) [(0, .ref (A 0)), (1, .ref (A 53)), (4, .int (a230.1)), (5, .int (a230.2.1)), (6, .int x6), (7, .int (a230.2.2))] 230 []), fL_isTree_J263 k230 cs ct cb cg x5 x6 x7 y0 = some res → Bk p l e ({ frames := 11, cells := 8, slots := 48, locals := 211 }) s m args below meth c Q A0 D 11 8 48 (wLW cI cZ A cs cw ct cu cl cb cp cg) [(0, .ref (A 0)), (1, .ref (A 53)), (5, .int x5), (6, .int x6), (7, .int x7)] 263 [.int y0] := by
    intro x5 x6 x7 y0 k230 hk230 hf
    unfold fL_isTree_J263 at hf
    intro H locs hP hD hS ls hl
    refine lv_istore (lv' := [(8, .int y0), (0, .ref (A 0)), (1, .ref (A 53)), (5, .int x5), (6, .int x6), (7, .int x7)]) hx hb dL_isTree_263 hl (by decide) rfl (fun ls hl => ?_)
    refine lv_iload hx hb dL_isTree_265 (lv_at hl 3 rfl) ?_
    refine lv_iload hx hb dL_isTree_267 (lv_at hl 0 rfl) ?_
    refine lv_if_eq (tgt := 323) hx hb dL_isTree_269 (by decide) (fun c269 => ?_) (fun c269 => ?_)
    · have hf := if_t c269 hf
      refine W.widen (k := 8) (n := 48) (by omega) (by omega) ?_
      exact B323 _ _ _ _ k230 hk230 hf H locs hP hD hS ls (lv_sub hl [1, 2, 4, 5, 0] rfl)
    · have hf := if_f c269 hf
      refine lv_aload_n hx hb dL_isTree_272 rfl (lv_at hl 1 rfl) ?_
      refine lv_iload hx hb dL_isTree_273 (lv_at hl 5 rfl) ?_
      refine lv_iconst (v := 5) hx hb dL_isTree_275 (by decide) ?_
      refine lv_idiv hx hb dL_isTree_276 (by decide) ?_
      refine lv_iload hx hb dL_isTree_277 (lv_at hl 5 rfl) ?_
      refine lv_iconst (v := 5) hx hb dL_isTree_279 (by decide) ?_
      refine lv_irem hx hb dL_isTree_280 (by decide) ?_
      refine lv_iconst (v := 0) hx hb dL_isTree_281 (by decide) ?_
      obtain ⟨q282, h282, hf⟩ := bn_t hf
      refine cl_i (va_runV (As := [.int (x7 / 5), .int (x7 - x7 / 5 * 5), .int 0]) (rest := [.int x5]) S (mX5_port l D cI cZ (aLW_X5_0_1_2_3_4_5_6 A) cs cw ct cu cl cb cp (x7 / 5) (x7 - x7 / 5 * 5) 0 H.size q282 h282) (cwV 3 hts gL_isTree_X5_port rfl rfl rfl (by decide +kernel) ⟨Nat.le_of_ble_eq_true rfl, Nat.le_of_ble_eq_true rfl⟩) (mP_V (ci := 5) (cutLW_X5_0_1_2_3_4_5_6 _ _ _ _ _ _ _ _ _ _ _ st0 st0 st0 st0 st0 st0 st0) hP hD hK hG rfl (gX5_0 _ _ _ _ _ _ _ _ _ _)) rfl rfl hl.1 rfl (lv_room (Nat.le_of_ble_eq_true rfl)) dL_isTree_282 ⟨by show _ ≤ 8; omega, by show _ ≤ 48; omega⟩) (cutLW_X5_0_1_2_3_4_5_6 _ _ _ _ _ _ _ _ _ _ _ _ _ _ _ _ _ _) hP hD hS hA (fun H locs hP hD hS => ?_)
      refine lv_iconst (v := 1) hx hb dL_isTree_285 (by decide) ?_
      refine lv_icmp_ne (tgt := 323) hx hb dL_isTree_286 (by decide) (fun c286 => ?_) (fun c286 => ?_)
      · have hf := if_f c286 hf
        refine W.widen (k := 8) (n := 48) (by omega) (by omega) ?_
        exact B323 _ _ _ _ k230 hk230 hf H locs hP hD hS ls (lv_sub hl [1, 2, 4, 5, 0] rfl)
      · have hf := if_t c286 hf
        refine lv_aload_n hx hb dL_isTree_289 rfl (lv_at hl 1 rfl) ?_
        refine lv_aload_n hx hb dL_isTree_290 rfl (lv_at hl 2 rfl) ?_
        refine lv_iload hx hb dL_isTree_291 (lv_at hl 5 rfl) ?_
        obtain ⟨c293, hf⟩ := ck_t hf
        refine va_iald (f := cg 0) hx hb hK hP 53 0 (gLW_53 _ _ _ _ _ _ _ _ _ _ _) rfl (inb_in c293) dL_isTree_293 ?_
        refine lv_iconst (v := 5) hx hb dL_isTree_294 (by decide) ?_
        refine lv_idiv hx hb dL_isTree_295 (by decide) ?_
        refine lv_aload_n hx hb dL_isTree_296 rfl (lv_at hl 2 rfl) ?_
        refine lv_iload hx hb dL_isTree_297 (lv_at hl 5 rfl) ?_
        obtain ⟨c299, hf⟩ := ck_t hf
        refine va_iald (f := cg 0) hx hb hK hP 53 0 (gLW_53 _ _ _ _ _ _ _ _ _ _ _) rfl (inb_in c299) dL_isTree_299 ?_
        refine lv_iconst (v := 5) hx hb dL_isTree_300 (by decide) ?_
        refine lv_irem hx hb dL_isTree_301 (by decide) ?_
        refine lv_iconst (v := 0) hx hb dL_isTree_302 (by decide) ?_
        obtain ⟨q303, h303, hf⟩ := bn_t hf
        refine cl_i (va_runV (As := [.int ((cg 0 x7.toNatClampNeg) / 5), .int ((cg 0 x7.toNatClampNeg) - (cg 0 x7.toNatClampNeg) / 5 * 5), .int 0]) (rest := [.int x5]) S (mX5_port l D cI cZ (aLW_X5_0_1_2_3_4_5_6 A) cs cw ct cu cl cb cp ((cg 0 x7.toNatClampNeg) / 5) ((cg 0 x7.toNatClampNeg) - (cg 0 x7.toNatClampNeg) / 5 * 5) 0 H.size q303 h303) (cwV 3 hts gL_isTree_X5_port rfl rfl rfl (by decide +kernel) ⟨Nat.le_of_ble_eq_true rfl, Nat.le_of_ble_eq_true rfl⟩) (mP_V (ci := 5) (cutLW_X5_0_1_2_3_4_5_6 _ _ _ _ _ _ _ _ _ _ _ st0 st0 st0 st0 st0 st0 st0) hP hD hK hG rfl (gX5_0 _ _ _ _ _ _ _ _ _ _)) rfl rfl hl.1 rfl (lv_room (Nat.le_of_ble_eq_true rfl)) dL_isTree_303 ⟨by show _ ≤ 8; omega, by show _ ≤ 48; omega⟩) (cutLW_X5_0_1_2_3_4_5_6 _ _ _ _ _ _ _ _ _ _ _ _ _ _ _ _ _ _) hP hD hS hA (fun H locs hP hD hS => ?_)
        refine lv_iconst (v := 1) hx hb dL_isTree_306 (by decide) ?_
        refine lv_icmp_ne (tgt := 323) hx hb dL_isTree_307 (by decide) (fun c307 => ?_) (fun c307 => ?_)
        · have hf := if_f c307 hf
          refine W.widen (k := 8) (n := 48) (by omega) (by omega) ?_
          exact B323 _ _ _ _ k230 hk230 hf H locs hP hD hS ls (lv_sub hl [1, 2, 4, 5, 0] rfl)
        · have hf := if_t c307 hf
          refine lv_iload hx hb dL_isTree_310 (lv_at hl 5 rfl) ?_
          refine lv_aload_n hx hb dL_isTree_312 rfl (lv_at hl 2 rfl) ?_
          refine lv_iload hx hb dL_isTree_313 (lv_at hl 5 rfl) ?_
          obtain ⟨c315, hf⟩ := ck_t hf
          refine va_iald (f := cg 0) hx hb hK hP 53 0 (gLW_53 _ _ _ _ _ _ _ _ _ _ _) rfl (inb_in c315) dL_isTree_315 ?_
          refine lv_icmp_ge (tgt := 323) hx hb dL_isTree_316 (by decide) (fun c316 => ?_) (fun c316 => ?_)
          · have hf := if_t c316 hf
            refine W.widen (k := 8) (n := 48) (by omega) (by omega) ?_
            exact B323 _ _ _ _ k230 hk230 hf H locs hP hD hS ls (lv_sub hl [1, 2, 4, 5, 0] rfl)
          · have hf := if_f c316 hf
            refine lv_iconst (v := 1) hx hb dL_isTree_319 (by decide) ?_
            refine lv_goto (tgt := 324) hx hb dL_isTree_320 (by decide) ?_
            refine W.widen (k := 8) (n := 48) (by omega) (by omega) ?_
            exact B324 _ _ _ _ _ k230 hk230 hf H locs hP hD hS ls (lv_sub hl [1, 2, 4, 5, 0] rfl)
  have B262 : ∀ (x5 : Int32) (x6 : Int32) (x7 : Int32) (k230 : (Int32 × Int32 × Int32) → Option (Int32)) (hk230 : ∀ a230, k230 a230 = some res → Bk p l e ({ frames := 11, cells := 8, slots := 48, locals := 211 }) s m args below meth c Q A0 D 11 8 48 (wLW cI cZ A cs cw ct cu cl cb cp cg) [(0, .ref (A 0)), (1, .ref (A 53)), (4, .int (a230.1)), (5, .int (a230.2.1)), (6, .int x6), (7, .int (a230.2.2))] 230 []), fL_isTree_J262 k230 cs ct cb cg x5 x6 x7 = some res → Bk p l e ({ frames := 11, cells := 8, slots := 48, locals := 211 }) s m args below meth c Q A0 D 11 8 48 (wLW cI cZ A cs cw ct cu cl cb cp cg) [(0, .ref (A 0)), (1, .ref (A 53)), (5, .int x5), (6, .int x6), (7, .int x7)] 262 [] := by
    intro x5 x6 x7 k230 hk230 hf
    unfold fL_isTree_J262 at hf
    intro H locs hP hD hS ls hl
    refine lv_iconst (v := 0) hx hb dL_isTree_262 (by decide) ?_
    refine W.widen (k := 8) (n := 48) (by omega) (by omega) ?_
    exact B263 _ _ _ _ k230 hk230 hf H locs hP hD hS ls (lv_sub hl [0, 1, 2, 3, 4] rfl)
  have B230 : ∀ (x6 : Int32) (x4 : Int32) (x5 : Int32) (x7 : Int32), fL_isTree_L230 cs ct cb cg x6 x4 x5 x7 = some res → Bk p l e ({ frames := 11, cells := 8, slots := 48, locals := 211 }) s m args below meth c Q A0 D 11 8 48 (wLW cI cZ A cs cw ct cu cl cb cp cg) [(0, .ref (A 0)), (1, .ref (A 53)), (4, .int x4), (5, .int x5), (6, .int x6), (7, .int x7)] 230 [] := by
    intro x6 x4 x5 x7 hf
    refine loop_ind (step := (fun k a => fL_isTree_S230 k cs ct cb cg x6 (a.1) (a.2.1) (a.2.2))) (fun a => Bk p l e ({ frames := 11, cells := 8, slots := 48, locals := 211 }) s m args below meth c Q A0 D 11 8 48 (wLW cI cZ A cs cw ct cu cl cb cp cg) [(0, .ref (A 0)), (1, .ref (A 53)), (4, .int (a.1)), (5, .int (a.2.1)), (6, .int x6), (7, .int (a.2.2))] 230 []) ?_ _ _ hf
    clear hf
    intro k230 hk230 a hf
    obtain ⟨x4_, x5_, x7_⟩ := a
    clear x4 x5 x7
    obtain ⟨x4, e_⟩ : ∃ z, z = x4_ := ⟨_, rfl⟩
    subst e_
    obtain ⟨x5, e_⟩ : ∃ z, z = x5_ := ⟨_, rfl⟩
    subst e_
    obtain ⟨x7, e_⟩ : ∃ z, z = x7_ := ⟨_, rfl⟩
    subst e_
    have hf : fL_isTree_S230 k230 cs ct cb cg x6 x4 x5 x7 = some res := hf
    show Bk p l e ({ frames := 11, cells := 8, slots := 48, locals := 211 }) s m args below meth c Q A0 D 11 8 48 (wLW cI cZ A cs cw ct cu cl cb cp cg) [(0, .ref (A 0)), (1, .ref (A 53)), (4, .int x4), (5, .int x5), (6, .int x6), (7, .int x7)] 230 []
    unfold fL_isTree_S230 at hf
    intro H locs hP hD hS ls hl
    refine lv_iload hx hb dL_isTree_230 (lv_at hl 5 rfl) ?_
    refine lv_bipush (v := 30) hx hb dL_isTree_232 (by decide) ?_
    refine lv_icmp_ge (tgt := 393) hx hb dL_isTree_234 (by decide) (fun c234 => ?_) (fun c234 => ?_)
    · have hf := if_t c234 hf
      refine W.widen (k := 8) (n := 48) (by omega) (by omega) ?_
      exact B393 _ _ _ hf H locs hP hD hS ls (lv_sub hl [2, 3, 4] rfl)
    · have hf := if_f c234 hf
      refine lv_iload hx hb dL_isTree_237 (lv_at hl 2 rfl) ?_
      refine lv_if_eq (tgt := 393) hx hb dL_isTree_239 (by decide) (fun c239 => ?_) (fun c239 => ?_)
      · have hf := if_t c239 hf
        refine W.widen (k := 8) (n := 48) (by omega) (by omega) ?_
        exact B393 _ _ _ hf H locs hP hD hS ls (lv_sub hl [2, 3, 4] rfl)
      · have hf := if_f c239 hf
        refine lv_aload_n hx hb dL_isTree_242 rfl (lv_at hl 1 rfl) ?_
        refine lv_iload hx hb dL_isTree_243 (lv_at hl 5 rfl) ?_
        obtain ⟨c245, hf⟩ := ck_t hf
        refine va_iald (f := cg 0) hx hb hK hP 53 0 (gLW_53 _ _ _ _ _ _ _ _ _ _ _) rfl (inb_in c245) dL_isTree_245 ?_
        refine lv_if_lt (tgt := 262) hx hb dL_isTree_246 (by decide) (fun c246 => ?_) (fun c246 => ?_)
        · have hf := if_t c246 hf
          refine W.widen (k := 8) (n := 48) (by omega) (by omega) ?_
          exact B262 _ _ _ k230 hk230 hf H locs hP hD hS ls (lv_sub hl [0, 1, 3, 4, 5] rfl)
        · have hf := if_f c246 hf
          refine lv_aload_n hx hb dL_isTree_249 rfl (lv_at hl 1 rfl) ?_
          refine lv_iload hx hb dL_isTree_250 (lv_at hl 5 rfl) ?_
          obtain ⟨c252, hf⟩ := ck_t hf
          refine va_iald (f := cg 0) hx hb hK hP 53 0 (gLW_53 _ _ _ _ _ _ _ _ _ _ _) rfl (inb_in c252) dL_isTree_252 ?_
          refine lv_bipush (v := 100) hx hb dL_isTree_253 (by decide) ?_
          refine lv_icmp_ge (tgt := 262) hx hb dL_isTree_255 (by decide) (fun c255 => ?_) (fun c255 => ?_)
          · have hf := if_t c255 hf
            refine W.widen (k := 8) (n := 48) (by omega) (by omega) ?_
            exact B262 _ _ _ k230 hk230 hf H locs hP hD hS ls (lv_sub hl [0, 1, 3, 4, 5] rfl)
          · have hf := if_f c255 hf
            refine lv_iconst (v := 1) hx hb dL_isTree_258 (by decide) ?_
            refine lv_goto (tgt := 263) hx hb dL_isTree_259 (by decide) ?_
            refine W.widen (k := 8) (n := 48) (by omega) (by omega) ?_
            exact B263 _ _ _ _ k230 hk230 hf H locs hP hD hS ls (lv_sub hl [0, 1, 3, 4, 5] rfl)
  have B227 : ∀ (x4 : Int32) (x5 : Int32) (x6 : Int32), fL_isTree_J227 cs ct cb cg x4 x5 x6 = some res → Bk p l e ({ frames := 11, cells := 8, slots := 48, locals := 211 }) s m args below meth c Q A0 D 11 8 48 (wLW cI cZ A cs cw ct cu cl cb cp cg) [(0, .ref (A 0)), (1, .ref (A 53)), (4, .int x4), (5, .int x5), (6, .int x6)] 227 [] := by
    intro x4 x5 x6 hf
    unfold fL_isTree_J227 at hf
    intro H locs hP hD hS ls hl
    refine lv_iconst (v := 0) hx hb dL_isTree_227 (by decide) ?_
    refine lv_istore (lv' := [(7, .int 0), (0, .ref (A 0)), (1, .ref (A 53)), (4, .int x4), (5, .int x5), (6, .int x6)]) hx hb dL_isTree_228 hl (by decide) rfl (fun ls hl => ?_)
    refine W.widen (k := 8) (n := 48) (by omega) (by omega) ?_
    exact B230 _ _ _ _ hf H locs hP hD hS ls (lv_sub hl [1, 2, 3, 4, 5, 0] rfl)
  have B123 : ∀ (x5 : Int32) (x6 : Int32) (x7 : Int32) (x9 : Int32) (x10 : Int32) (y0 : Int32) (y1 : Int32) (c1 s1 : Nat) (hcb : c1 + 1 ≤ 8) (hsb : s1 + 6 ≤ 48) (k12 : (Int32 × Int32 × Int32) → Option (Int32)) (hk12 : ∀ a12, k12 a12 = some res → Bk p l e ({ frames := 11, cells := 8, slots := 48, locals := 211 }) s m args below meth c Q A0 D 11 (c1 + 1) (s1 + 6) (wLW cI cZ A cs cw ct cu cl cb cp cg) [(0, .ref (A 0)), (1, .ref (A 53)), (2, .ref (A 54)), (3, .ref (A 56)), (4, .int (a12.1)), (5, .int x5), (6, .int (a12.2.1)), (7, .int (a12.2.2))] 12 []), fL_isTree_J123 k12 cs ct cb cg x5 x6 x7 x9 x10 y0 y1 = some res → Bk p l e ({ frames := 11, cells := 8, slots := 48, locals := 211 }) s m args below meth c Q A0 D 11 (c1 + 1) (s1 + 6) (wLW cI cZ A cs cw ct cu cl cb cp cg) [(0, .ref (A 0)), (1, .ref (A 53)), (2, .ref (A 54)), (3, .ref (A 56)), (5, .int x5), (6, .int x6), (7, .int x7), (9, .int x9), (10, .int x10)] 123 [.int y0, .int y1] := by
    intro x5 x6 x7 x9 x10 y0 y1 c1 s1 hcb hsb k12 hk12 hf
    unfold fL_isTree_J123 at hf
    intro H locs hP hD hS ls hl
    refine lv_icmp_ne (tgt := 218) hx hb dL_isTree_123 (by decide) (fun c123 => ?_) (fun c123 => ?_)
    · have hf := if_f c123 hf
      refine lv_iconst (v := 0) hx hb dL_isTree_218 (by decide) ?_
      refine lv_istore (lv' := [(4, .int 0), (0, .ref (A 0)), (1, .ref (A 53)), (2, .ref (A 54)), (3, .ref (A 56)), (5, .int x5), (6, .int x6), (7, .int x7), (9, .int x9), (10, .int x10)]) hx hb dL_isTree_219 hl (by decide) rfl (fun ls hl => ?_)
      refine lv_iinc (v := x7 + 1) (lv' := [(7, .int (x7 + 1)), (4, .int 0), (0, .ref (A 0)), (1, .ref (A 53)), (2, .ref (A 54)), (3, .ref (A 56)), (5, .int x5), (6, .int x6), (9, .int x9), (10, .int x10)]) hx hb dL_isTree_221 hl (k := 7) rfl rfl (by decide) rfl (fun ls hl => ?_)
      refine lv_goto (tgt := 12) hx hb dL_isTree_224 (by decide) ?_
      refine W.widen (k := c1 + 1) (n := s1 + 6) (by omega) (by omega) ?_
      exact hk12 _ hf H locs hP hD hS ls (lv_sub hl [2, 3, 4, 5, 1, 6, 7, 0] rfl)
    · have hf := if_t c123 hf
      refine lv_iload hx hb dL_isTree_126 (lv_at hl 8 rfl) ?_
      refine lv_if_lt (tgt := 214) hx hb dL_isTree_128 (by decide) (fun c128 => ?_) (fun c128 => ?_)
      · have hf := if_t c128 hf
        refine lv_iconst (v := 1) hx hb dL_isTree_214 (by decide) ?_
        refine lv_goto (tgt := 219) hx hb dL_isTree_215 (by decide) ?_
        refine lv_istore (lv' := [(4, .int 1), (0, .ref (A 0)), (1, .ref (A 53)), (2, .ref (A 54)), (3, .ref (A 56)), (5, .int x5), (6, .int x6), (7, .int x7), (9, .int x9), (10, .int x10)]) hx hb dL_isTree_219 hl (by decide) rfl (fun ls hl => ?_)
        refine lv_iinc (v := x7 + 1) (lv' := [(7, .int (x7 + 1)), (4, .int 1), (0, .ref (A 0)), (1, .ref (A 53)), (2, .ref (A 54)), (3, .ref (A 56)), (5, .int x5), (6, .int x6), (9, .int x9), (10, .int x10)]) hx hb dL_isTree_221 hl (k := 7) rfl rfl (by decide) rfl (fun ls hl => ?_)
        refine lv_goto (tgt := 12) hx hb dL_isTree_224 (by decide) ?_
        refine W.widen (k := c1 + 1) (n := s1 + 6) (by omega) (by omega) ?_
        exact hk12 _ hf H locs hP hD hS ls (lv_sub hl [2, 3, 4, 5, 1, 6, 7, 0] rfl)
      · have hf := if_f c128 hf
        refine lv_aload_n hx hb dL_isTree_131 rfl (lv_at hl 1 rfl) ?_
        refine lv_iconst (v := 5) hx hb dL_isTree_132 (by decide) ?_
        refine lv_iload hx hb dL_isTree_133 (lv_at hl 6 rfl) ?_
        refine lv_imul hx hb dL_isTree_135 ?_
        refine lv_iload hx hb dL_isTree_136 (lv_at hl 8 rfl) ?_
        refine lv_iadd hx hb dL_isTree_138 ?_
        obtain ⟨c139, hf⟩ := ck_t hf
        refine va_iald (f := cg 0) hx hb hK hP 53 0 (gLW_53 _ _ _ _ _ _ _ _ _ _ _) rfl (inb_in c139) dL_isTree_139 ?_
        refine lv_if_lt (tgt := 218) hx hb dL_isTree_140 (by decide) (fun c140 => ?_) (fun c140 => ?_)
        · have hf := if_t c140 hf
          refine lv_iconst (v := 0) hx hb dL_isTree_218 (by decide) ?_
          refine lv_istore (lv' := [(4, .int 0), (0, .ref (A 0)), (1, .ref (A 53)), (2, .ref (A 54)), (3, .ref (A 56)), (5, .int x5), (6, .int x6), (7, .int x7), (9, .int x9), (10, .int x10)]) hx hb dL_isTree_219 hl (by decide) rfl (fun ls hl => ?_)
          refine lv_iinc (v := x7 + 1) (lv' := [(7, .int (x7 + 1)), (4, .int 0), (0, .ref (A 0)), (1, .ref (A 53)), (2, .ref (A 54)), (3, .ref (A 56)), (5, .int x5), (6, .int x6), (9, .int x9), (10, .int x10)]) hx hb dL_isTree_221 hl (k := 7) rfl rfl (by decide) rfl (fun ls hl => ?_)
          refine lv_goto (tgt := 12) hx hb dL_isTree_224 (by decide) ?_
          refine W.widen (k := c1 + 1) (n := s1 + 6) (by omega) (by omega) ?_
          exact hk12 _ hf H locs hP hD hS ls (lv_sub hl [2, 3, 4, 5, 1, 6, 7, 0] rfl)
        · have hf := if_f c140 hf
          refine lv_aload_n hx hb dL_isTree_143 rfl (lv_at hl 1 rfl) ?_
          refine lv_iconst (v := 5) hx hb dL_isTree_144 (by decide) ?_
          refine lv_iload hx hb dL_isTree_145 (lv_at hl 6 rfl) ?_
          refine lv_imul hx hb dL_isTree_147 ?_
          refine lv_iload hx hb dL_isTree_148 (lv_at hl 8 rfl) ?_
          refine lv_iadd hx hb dL_isTree_150 ?_
          obtain ⟨c151, hf⟩ := ck_t hf
          refine va_iald (f := cg 0) hx hb hK hP 53 0 (gLW_53 _ _ _ _ _ _ _ _ _ _ _) rfl (inb_in c151) dL_isTree_151 ?_
          refine lv_bipush (v := 100) hx hb dL_isTree_152 (by decide) ?_
          refine lv_icmp_ge (tgt := 218) hx hb dL_isTree_154 (by decide) (fun c154 => ?_) (fun c154 => ?_)
          · have hf := if_t c154 hf
            refine lv_iconst (v := 0) hx hb dL_isTree_218 (by decide) ?_
            refine lv_istore (lv' := [(4, .int 0), (0, .ref (A 0)), (1, .ref (A 53)), (2, .ref (A 54)), (3, .ref (A 56)), (5, .int x5), (6, .int x6), (7, .int x7), (9, .int x9), (10, .int x10)]) hx hb dL_isTree_219 hl (by decide) rfl (fun ls hl => ?_)
            refine lv_iinc (v := x7 + 1) (lv' := [(7, .int (x7 + 1)), (4, .int 0), (0, .ref (A 0)), (1, .ref (A 53)), (2, .ref (A 54)), (3, .ref (A 56)), (5, .int x5), (6, .int x6), (9, .int x9), (10, .int x10)]) hx hb dL_isTree_221 hl (k := 7) rfl rfl (by decide) rfl (fun ls hl => ?_)
            refine lv_goto (tgt := 12) hx hb dL_isTree_224 (by decide) ?_
            refine W.widen (k := c1 + 1) (n := s1 + 6) (by omega) (by omega) ?_
            exact hk12 _ hf H locs hP hD hS ls (lv_sub hl [2, 3, 4, 5, 1, 6, 7, 0] rfl)
          · have hf := if_f c154 hf
            refine lv_aload_n hx hb dL_isTree_157 rfl (lv_at hl 0 rfl) ?_
            refine lv_iload hx hb dL_isTree_158 (lv_at hl 6 rfl) ?_
            refine lv_iload hx hb dL_isTree_160 (lv_at hl 8 rfl) ?_
            refine lv_iconst (v := 0) hx hb dL_isTree_162 (by decide) ?_
            obtain ⟨q163, h163, hf⟩ := bn_t hf
            refine cl_i (va_runV (As := [.int x7, .int x10, .int 0]) (rest := []) S (mX5_port l D cI cZ (aLW_X5_0_1_2_3_4_5_6 A) cs cw ct cu cl cb cp x7 x10 0 H.size q163 h163) (cwV 3 hts gL_isTree_X5_port rfl rfl rfl (by decide +kernel) ⟨Nat.le_of_ble_eq_true rfl, Nat.le_of_ble_eq_true rfl⟩) (mP_V (ci := 5) (cutLW_X5_0_1_2_3_4_5_6 _ _ _ _ _ _ _ _ _ _ _ st0 st0 st0 st0 st0 st0 st0) hP hD hK hG rfl (gX5_0 _ _ _ _ _ _ _ _ _ _)) rfl rfl hl.1 rfl (lv_room (Nat.le_of_ble_eq_true rfl)) dL_isTree_163 ⟨by show _ ≤ 8; omega, by show _ ≤ 48; omega⟩) (cutLW_X5_0_1_2_3_4_5_6 _ _ _ _ _ _ _ _ _ _ _ _ _ _ _ _ _ _) hP hD hS hA (fun H locs hP hD hS => ?_)
            refine lv_iconst (v := 1) hx hb dL_isTree_166 (by decide) ?_
            refine lv_icmp_ne (tgt := 218) hx hb dL_isTree_167 (by decide) (fun c167 => ?_) (fun c167 => ?_)
            · have hf := if_f c167 hf
              refine lv_iconst (v := 0) hx hb dL_isTree_218 (by decide) ?_
              refine lv_istore (lv' := [(4, .int 0), (0, .ref (A 0)), (1, .ref (A 53)), (2, .ref (A 54)), (3, .ref (A 56)), (5, .int x5), (6, .int x6), (7, .int x7), (9, .int x9), (10, .int x10)]) hx hb dL_isTree_219 hl (by decide) rfl (fun ls hl => ?_)
              refine lv_iinc (v := x7 + 1) (lv' := [(7, .int (x7 + 1)), (4, .int 0), (0, .ref (A 0)), (1, .ref (A 53)), (2, .ref (A 54)), (3, .ref (A 56)), (5, .int x5), (6, .int x6), (9, .int x9), (10, .int x10)]) hx hb dL_isTree_221 hl (k := 7) rfl rfl (by decide) rfl (fun ls hl => ?_)
              refine lv_goto (tgt := 12) hx hb dL_isTree_224 (by decide) ?_
              refine W.widen (k := c1 + 1) (n := s1 + 6) (by omega) (by omega) ?_
              exact hk12 _ hf H locs hP hD hS ls (lv_sub hl [2, 3, 4, 5, 1, 6, 7, 0] rfl)
            · have hf := if_t c167 hf
              refine lv_aload_n hx hb dL_isTree_170 rfl (lv_at hl 0 rfl) ?_
              refine lv_iload hx hb dL_isTree_171 (lv_at hl 6 rfl) ?_
              refine lv_iload hx hb dL_isTree_173 (lv_at hl 8 rfl) ?_
              refine lv_iconst (v := 1) hx hb dL_isTree_175 (by decide) ?_
              obtain ⟨q176, h176, hf⟩ := bn_t hf
              refine cl_i (va_runV (As := [.int x7, .int x10, .int 1]) (rest := []) S (mX5_port l D cI cZ (aLW_X5_0_1_2_3_4_5_6 A) cs cw ct cu cl cb cp x7 x10 1 H.size q176 h176) (cwV 3 hts gL_isTree_X5_port rfl rfl rfl (by decide +kernel) ⟨Nat.le_of_ble_eq_true rfl, Nat.le_of_ble_eq_true rfl⟩) (mP_V (ci := 5) (cutLW_X5_0_1_2_3_4_5_6 _ _ _ _ _ _ _ _ _ _ _ st0 st0 st0 st0 st0 st0 st0) hP hD hK hG rfl (gX5_0 _ _ _ _ _ _ _ _ _ _)) rfl rfl hl.1 rfl (lv_room (Nat.le_of_ble_eq_true rfl)) dL_isTree_176 ⟨by show _ ≤ 8; omega, by show _ ≤ 48; omega⟩) (cutLW_X5_0_1_2_3_4_5_6 _ _ _ _ _ _ _ _ _ _ _ _ _ _ _ _ _ _) hP hD hS hA (fun H locs hP hD hS => ?_)
              refine lv_iconst (v := 1) hx hb dL_isTree_179 (by decide) ?_
              refine lv_icmp_ne (tgt := 218) hx hb dL_isTree_180 (by decide) (fun c180 => ?_) (fun c180 => ?_)
              · have hf := if_f c180 hf
                refine lv_iconst (v := 0) hx hb dL_isTree_218 (by decide) ?_
                refine lv_istore (lv' := [(4, .int 0), (0, .ref (A 0)), (1, .ref (A 53)), (2, .ref (A 54)), (3, .ref (A 56)), (5, .int x5), (6, .int x6), (7, .int x7), (9, .int x9), (10, .int x10)]) hx hb dL_isTree_219 hl (by decide) rfl (fun ls hl => ?_)
                refine lv_iinc (v := x7 + 1) (lv' := [(7, .int (x7 + 1)), (4, .int 0), (0, .ref (A 0)), (1, .ref (A 53)), (2, .ref (A 54)), (3, .ref (A 56)), (5, .int x5), (6, .int x6), (9, .int x9), (10, .int x10)]) hx hb dL_isTree_221 hl (k := 7) rfl rfl (by decide) rfl (fun ls hl => ?_)
                refine lv_goto (tgt := 12) hx hb dL_isTree_224 (by decide) ?_
                refine W.widen (k := c1 + 1) (n := s1 + 6) (by omega) (by omega) ?_
                exact hk12 _ hf H locs hP hD hS ls (lv_sub hl [2, 3, 4, 5, 1, 6, 7, 0] rfl)
              · have hf := if_t c180 hf
                refine lv_aload_n hx hb dL_isTree_183 rfl (lv_at hl 0 rfl) ?_
                refine lv_aload_n hx hb dL_isTree_184 rfl (lv_at hl 1 rfl) ?_
                refine lv_iconst (v := 5) hx hb dL_isTree_185 (by decide) ?_
                refine lv_iload hx hb dL_isTree_186 (lv_at hl 6 rfl) ?_
                refine lv_imul hx hb dL_isTree_188 ?_
                refine lv_iload hx hb dL_isTree_189 (lv_at hl 8 rfl) ?_
                refine lv_iadd hx hb dL_isTree_191 ?_
                obtain ⟨c192, hf⟩ := ck_t hf
                refine va_iald (f := cg 0) hx hb hK hP 53 0 (gLW_53 _ _ _ _ _ _ _ _ _ _ _) rfl (inb_in c192) dL_isTree_192 ?_
                refine lv_iconst (v := 5) hx hb dL_isTree_193 (by decide) ?_
                refine lv_idiv hx hb dL_isTree_194 (by decide) ?_
                refine lv_iconst (v := 1) hx hb dL_isTree_195 (by decide) ?_
                obtain ⟨q196, h196, hf⟩ := bn_t hf
                refine cl_i (va_runV (As := [.int ((cg 0 ((5 * x7) + x10).toNatClampNeg) / 5), .int 1]) (rest := []) S (mX5_holds l D cI cZ (aLW_X5_0_1_2_3_4_5_6 A) cs cw ct cu cl cb cp ((cg 0 ((5 * x7) + x10).toNatClampNeg) / 5) 1 H.size q196 h196) (cwV 2 hts gL_isTree_X5_holds rfl rfl rfl (by decide +kernel) ⟨Nat.le_of_ble_eq_true rfl, Nat.le_of_ble_eq_true rfl⟩) (mP_V (ci := 5) (cutLW_X5_0_1_2_3_4_5_6 _ _ _ _ _ _ _ _ _ _ _ st0 st0 st0 st0 st0 st0 st0) hP hD hK hG rfl (gX5_0 _ _ _ _ _ _ _ _ _ _)) rfl rfl hl.1 rfl (lv_room (Nat.le_of_ble_eq_true rfl)) dL_isTree_196 ⟨by show _ ≤ 8; omega, by show _ ≤ 48; omega⟩) (cutLW_X5_0_1_2_3_4_5_6 _ _ _ _ _ _ _ _ _ _ _ _ _ _ _ _ _ _) hP hD hS hA (fun H locs hP hD hS => ?_)
                refine lv_aload_n hx hb dL_isTree_199 rfl (lv_at hl 2 rfl) ?_
                refine lv_iconst (v := 5) hx hb dL_isTree_200 (by decide) ?_
                refine lv_iload hx hb dL_isTree_201 (lv_at hl 6 rfl) ?_
                refine lv_imul hx hb dL_isTree_203 ?_
                refine lv_iload hx hb dL_isTree_204 (lv_at hl 8 rfl) ?_
                refine lv_iadd hx hb dL_isTree_206 ?_
                obtain ⟨c207, hf⟩ := ck_t hf
                refine va_iald (f := cg 1) hx hb hK hP 54 0 (gLW_54 _ _ _ _ _ _ _ _ _ _ _) rfl (inb_in c207) dL_isTree_207 ?_
                refine lv_iadd hx hb dL_isTree_208 ?_
                refine lv_iload hx hb dL_isTree_209 (lv_at hl 7 rfl) ?_
                refine lv_icmp_ne (tgt := 218) hx hb dL_isTree_211 (by decide) (fun c211 => ?_) (fun c211 => ?_)
                · have hf := if_f c211 hf
                  refine lv_iconst (v := 0) hx hb dL_isTree_218 (by decide) ?_
                  refine lv_istore (lv' := [(4, .int 0), (0, .ref (A 0)), (1, .ref (A 53)), (2, .ref (A 54)), (3, .ref (A 56)), (5, .int x5), (6, .int x6), (7, .int x7), (9, .int x9), (10, .int x10)]) hx hb dL_isTree_219 hl (by decide) rfl (fun ls hl => ?_)
                  refine lv_iinc (v := x7 + 1) (lv' := [(7, .int (x7 + 1)), (4, .int 0), (0, .ref (A 0)), (1, .ref (A 53)), (2, .ref (A 54)), (3, .ref (A 56)), (5, .int x5), (6, .int x6), (9, .int x9), (10, .int x10)]) hx hb dL_isTree_221 hl (k := 7) rfl rfl (by decide) rfl (fun ls hl => ?_)
                  refine lv_goto (tgt := 12) hx hb dL_isTree_224 (by decide) ?_
                  refine W.widen (k := c1 + 1) (n := s1 + 6) (by omega) (by omega) ?_
                  exact hk12 _ hf H locs hP hD hS ls (lv_sub hl [2, 3, 4, 5, 1, 6, 7, 0] rfl)
                · have hf := if_t c211 hf
                  refine lv_iconst (v := 1) hx hb dL_isTree_214 (by decide) ?_
                  refine lv_goto (tgt := 219) hx hb dL_isTree_215 (by decide) ?_
                  refine lv_istore (lv' := [(4, .int 1), (0, .ref (A 0)), (1, .ref (A 53)), (2, .ref (A 54)), (3, .ref (A 56)), (5, .int x5), (6, .int x6), (7, .int x7), (9, .int x9), (10, .int x10)]) hx hb dL_isTree_219 hl (by decide) rfl (fun ls hl => ?_)
                  refine lv_iinc (v := x7 + 1) (lv' := [(7, .int (x7 + 1)), (4, .int 1), (0, .ref (A 0)), (1, .ref (A 53)), (2, .ref (A 54)), (3, .ref (A 56)), (5, .int x5), (6, .int x6), (9, .int x9), (10, .int x10)]) hx hb dL_isTree_221 hl (k := 7) rfl rfl (by decide) rfl (fun ls hl => ?_)
                  refine lv_goto (tgt := 12) hx hb dL_isTree_224 (by decide) ?_
                  refine W.widen (k := c1 + 1) (n := s1 + 6) (by omega) (by omega) ?_
                  exact hk12 _ hf H locs hP hD hS ls (lv_sub hl [2, 3, 4, 5, 1, 6, 7, 0] rfl)
  have B111 : ∀ (x5 : Int32) (x6 : Int32) (x7 : Int32) (x8 : Int32) (x9 : Int32) (x10 : Int32) (y0 : Int32) (c1 s1 : Nat) (hcb : c1 + 1 ≤ 8) (hsb : s1 + 6 ≤ 48) (k12 : (Int32 × Int32 × Int32) → Option (Int32)) (hk12 : ∀ a12, k12 a12 = some res → Bk p l e ({ frames := 11, cells := 8, slots := 48, locals := 211 }) s m args below meth c Q A0 D 11 (c1 + 1) (s1 + 6) (wLW cI cZ A cs cw ct cu cl cb cp cg) [(0, .ref (A 0)), (1, .ref (A 53)), (2, .ref (A 54)), (3, .ref (A 56)), (4, .int (a12.1)), (5, .int x5), (6, .int (a12.2.1)), (7, .int (a12.2.2))] 12 []), fL_isTree_J111 k12 cs ct cb cg x5 x6 x7 x8 x9 x10 y0 = some res → Bk p l e ({ frames := 11, cells := 8, slots := 48, locals := 211 }) s m args below meth c Q A0 D 11 (c1 + 1) (s1 + 6) (wLW cI cZ A cs cw ct cu cl cb cp cg) [(0, .ref (A 0)), (1, .ref (A 53)), (2, .ref (A 54)), (3, .ref (A 56)), (5, .int x5), (6, .int x6), (7, .int x7), (8, .int x8), (9, .int x9), (10, .int x10)] 111 [.int y0] := by
    intro x5 x6 x7 x8 x9 x10 y0 c1 s1 hcb hsb k12 hk12 hf
    unfold fL_isTree_J111 at hf
    intro H locs hP hD hS ls hl
    refine lv_iload hx hb dL_isTree_111 (lv_at hl 7 rfl) ?_
    refine lv_iload hx hb dL_isTree_113 (lv_at hl 6 rfl) ?_
    refine lv_icmp_ne (tgt := 122) hx hb dL_isTree_115 (by decide) (fun c115 => ?_) (fun c115 => ?_)
    · have hf := if_f c115 hf
      refine lv_iconst (v := 0) hx hb dL_isTree_122 (by decide) ?_
      refine W.widen (k := c1 + 1) (n := s1 + 6) (by omega) (by omega) ?_
      exact B123 _ _ _ _ _ _ _ c1 s1 hcb hsb k12 hk12 hf H locs hP hD hS ls (lv_sub hl [0, 1, 2, 3, 4, 5, 6, 8, 9] rfl)
    · have hf := if_t c115 hf
      refine lv_iconst (v := 1) hx hb dL_isTree_118 (by decide) ?_
      refine lv_goto (tgt := 123) hx hb dL_isTree_119 (by decide) ?_
      refine W.widen (k := c1 + 1) (n := s1 + 6) (by omega) (by omega) ?_
      exact B123 _ _ _ _ _ _ _ c1 s1 hcb hsb k12 hk12 hf H locs hP hD hS ls (lv_sub hl [0, 1, 2, 3, 4, 5, 6, 8, 9] rfl)
  have B84 : ∀ (x4 : Int32) (x5 : Int32) (x7 : Int32) (x8 : Int32) (x9 : Int32) (y0 : Int32) (y1 : Int32) (c1 s1 : Nat) (hcb : c1 + 1 ≤ 8) (hsb : s1 + 6 ≤ 48) (k12 : (Int32 × Int32 × Int32) → Option (Int32)) (hk12 : ∀ a12, k12 a12 = some res → Bk p l e ({ frames := 11, cells := 8, slots := 48, locals := 211 }) s m args below meth c Q A0 D 11 (c1 + 1) (s1 + 6) (wLW cI cZ A cs cw ct cu cl cb cp cg) [(0, .ref (A 0)), (1, .ref (A 53)), (2, .ref (A 54)), (3, .ref (A 56)), (4, .int (a12.1)), (5, .int x5), (6, .int (a12.2.1)), (7, .int (a12.2.2))] 12 []), fL_isTree_J84 k12 cs ct cb cg x4 x5 x7 x8 x9 y0 y1 = some res → Bk p l e ({ frames := 11, cells := 8, slots := 48, locals := 211 }) s m args below meth c Q A0 D 11 (c1 + 1) (s1 + 6) (wLW cI cZ A cs cw ct cu cl cb cp cg) [(0, .ref (A 0)), (1, .ref (A 53)), (2, .ref (A 54)), (3, .ref (A 56)), (4, .int x4), (5, .int x5), (7, .int x7), (8, .int x8), (9, .int x9)] 84 [.int y0, .int y1] := by
    intro x4 x5 x7 x8 x9 y0 y1 c1 s1 hcb hsb k12 hk12 hf
    unfold fL_isTree_J84 at hf
    intro H locs hP hD hS ls hl
    refine lv_iadd hx hb dL_isTree_84 ?_
    refine lv_istore (lv' := [(6, .int (y1 + y0)), (0, .ref (A 0)), (1, .ref (A 53)), (2, .ref (A 54)), (3, .ref (A 56)), (4, .int x4), (5, .int x5), (7, .int x7), (8, .int x8), (9, .int x9)]) hx hb dL_isTree_85 hl (by decide) rfl (fun ls hl => ?_)
    refine lv_aload_n hx hb dL_isTree_87 rfl (lv_at hl 1 rfl) ?_
    refine lv_iload hx hb dL_isTree_88 (lv_at hl 7 rfl) ?_
    refine lv_iconst (v := 3) hx hb dL_isTree_90 (by decide) ?_
    obtain ⟨q91, h91, hf⟩ := bn_t hf
    refine cl_i (va_runV (As := [.int x7, .int 3]) (rest := []) S (mX5_holds l D cI cZ (aLW_X5_0_1_2_3_4_5_6 A) cs cw ct cu cl cb cp x7 3 H.size q91 h91) (cwV 2 hts gL_isTree_X5_holds rfl rfl rfl (by decide +kernel) ⟨Nat.le_of_ble_eq_true rfl, Nat.le_of_ble_eq_true rfl⟩) (mP_V (ci := 5) (cutLW_X5_0_1_2_3_4_5_6 _ _ _ _ _ _ _ _ _ _ _ st0 st0 st0 st0 st0 st0 st0) hP hD hK hG rfl (gX5_0 _ _ _ _ _ _ _ _ _ _)) rfl rfl hl.1 rfl (lv_room (Nat.le_of_ble_eq_true rfl)) dL_isTree_91 ⟨by show _ ≤ 8; omega, by show _ ≤ 48; omega⟩) (cutLW_X5_0_1_2_3_4_5_6 _ _ _ _ _ _ _ _ _ _ _ _ _ _ _ _ _ _) hP hD hS hA (fun H locs hP hD hS => ?_)
    refine lv_istore (lv' := [(10, .int q91), (6, .int (y1 + y0)), (0, .ref (A 0)), (1, .ref (A 53)), (2, .ref (A 54)), (3, .ref (A 56)), (4, .int x4), (5, .int x5), (7, .int x7), (8, .int x8), (9, .int x9)]) hx hb dL_isTree_94 hl (by decide) rfl (fun ls hl => ?_)
    refine lv_iload hx hb dL_isTree_96 (lv_at hl 6 rfl) ?_
    refine lv_if_eq (tgt := 218) hx hb dL_isTree_98 (by decide) (fun c98 => ?_) (fun c98 => ?_)
    · have hf := if_t c98 hf
      refine lv_iconst (v := 0) hx hb dL_isTree_218 (by decide) ?_
      refine lv_istore (lv' := [(4, .int 0), (10, .int q91), (6, .int (y1 + y0)), (0, .ref (A 0)), (1, .ref (A 53)), (2, .ref (A 54)), (3, .ref (A 56)), (5, .int x5), (7, .int x7), (8, .int x8), (9, .int x9)]) hx hb dL_isTree_219 hl (by decide) rfl (fun ls hl => ?_)
      refine lv_iinc (v := x7 + 1) (lv' := [(7, .int (x7 + 1)), (4, .int 0), (10, .int q91), (6, .int (y1 + y0)), (0, .ref (A 0)), (1, .ref (A 53)), (2, .ref (A 54)), (3, .ref (A 56)), (5, .int x5), (8, .int x8), (9, .int x9)]) hx hb dL_isTree_221 hl (k := 8) rfl rfl (by decide) rfl (fun ls hl => ?_)
      refine lv_goto (tgt := 12) hx hb dL_isTree_224 (by decide) ?_
      refine W.widen (k := c1 + 1) (n := s1 + 6) (by omega) (by omega) ?_
      exact hk12 _ hf H locs hP hD hS ls (lv_sub hl [4, 5, 6, 7, 1, 8, 3, 0] rfl)
    · have hf := if_f c98 hf
      refine lv_iload hx hb dL_isTree_101 (lv_at hl 0 rfl) ?_
      refine lv_if_ge (tgt := 110) hx hb dL_isTree_103 (by decide) (fun c103 => ?_) (fun c103 => ?_)
      · have hf := if_t c103 hf
        refine lv_iconst (v := 0) hx hb dL_isTree_110 (by decide) ?_
        refine W.widen (k := c1 + 1) (n := s1 + 6) (by omega) (by omega) ?_
        exact B111 _ _ _ _ _ _ _ c1 s1 hcb hsb k12 hk12 hf H locs hP hD hS ls (lv_sub hl [2, 3, 4, 5, 7, 1, 8, 9, 10, 0] rfl)
      · have hf := if_f c103 hf
        refine lv_iconst (v := 1) hx hb dL_isTree_106 (by decide) ?_
        refine lv_goto (tgt := 111) hx hb dL_isTree_107 (by decide) ?_
        refine W.widen (k := c1 + 1) (n := s1 + 6) (by omega) (by omega) ?_
        exact B111 _ _ _ _ _ _ _ c1 s1 hcb hsb k12 hk12 hf H locs hP hD hS ls (lv_sub hl [2, 3, 4, 5, 7, 1, 8, 9, 10, 0] rfl)
  have B68 : ∀ (x5 : Int32) (x6 : Int32) (x7 : Int32) (x8 : Int32) (x9 : Int32) (y0 : Int32) (c1 s1 : Nat) (hcb : c1 + 1 ≤ 8) (hsb : s1 + 6 ≤ 48) (k12 : (Int32 × Int32 × Int32) → Option (Int32)) (hk12 : ∀ a12, k12 a12 = some res → Bk p l e ({ frames := 11, cells := 8, slots := 48, locals := 211 }) s m args below meth c Q A0 D 11 (c1 + 1) (s1 + 6) (wLW cI cZ A cs cw ct cu cl cb cp cg) [(0, .ref (A 0)), (1, .ref (A 53)), (2, .ref (A 54)), (3, .ref (A 56)), (4, .int (a12.1)), (5, .int x5), (6, .int (a12.2.1)), (7, .int (a12.2.2))] 12 []), fL_isTree_J68 k12 cs ct cb cg x5 x6 x7 x8 x9 y0 = some res → Bk p l e ({ frames := 11, cells := 8, slots := 48, locals := 211 }) s m args below meth c Q A0 D 11 (c1 + 1) (s1 + 6) (wLW cI cZ A cs cw ct cu cl cb cp cg) [(0, .ref (A 0)), (1, .ref (A 53)), (2, .ref (A 54)), (3, .ref (A 56)), (5, .int x5), (6, .int x6), (7, .int x7), (8, .int x8), (9, .int x9)] 68 [.int y0] := by
    intro x5 x6 x7 x8 x9 y0 c1 s1 hcb hsb k12 hk12 hf
    unfold fL_isTree_J68 at hf
    intro H locs hP hD hS ls hl
    refine lv_istore (lv' := [(4, .int y0), (0, .ref (A 0)), (1, .ref (A 53)), (2, .ref (A 54)), (3, .ref (A 56)), (5, .int x5), (6, .int x6), (7, .int x7), (8, .int x8), (9, .int x9)]) hx hb dL_isTree_68 hl (by decide) rfl (fun ls hl => ?_)
    refine lv_iload hx hb dL_isTree_70 (lv_at hl 6 rfl) ?_
    refine lv_iload hx hb dL_isTree_72 (lv_at hl 8 rfl) ?_
    refine lv_iload hx hb dL_isTree_74 (lv_at hl 7 rfl) ?_
    refine lv_icmp_ne (tgt := 83) hx hb dL_isTree_76 (by decide) (fun c76 => ?_) (fun c76 => ?_)
    · have hf := if_f c76 hf
      refine lv_iconst (v := 0) hx hb dL_isTree_83 (by decide) ?_
      refine W.widen (k := c1 + 1) (n := s1 + 6) (by omega) (by omega) ?_
      exact B84 _ _ _ _ _ _ _ c1 s1 hcb hsb k12 hk12 hf H locs hP hD hS ls (lv_sub hl [1, 2, 3, 4, 0, 5, 7, 8, 9] rfl)
    · have hf := if_t c76 hf
      refine lv_iconst (v := 1) hx hb dL_isTree_79 (by decide) ?_
      refine lv_goto (tgt := 84) hx hb dL_isTree_80 (by decide) ?_
      refine W.widen (k := c1 + 1) (n := s1 + 6) (by omega) (by omega) ?_
      exact B84 _ _ _ _ _ _ _ c1 s1 hcb hsb k12 hk12 hf H locs hP hD hS ls (lv_sub hl [1, 2, 3, 4, 0, 5, 7, 8, 9] rfl)
  have B12 : ∀ (x5 : Int32) (x4 : Int32) (x6 : Int32) (x7 : Int32), fL_isTree_L12 cs ct cb cg x5 x4 x6 x7 = some res → Bk p l e ({ frames := 11, cells := 8, slots := 48, locals := 211 }) s m args below meth c Q A0 D 11 0 0 (wLW cI cZ A cs cw ct cu cl cb cp cg) [(0, .ref (A 0)), (1, .ref (A 53)), (2, .ref (A 54)), (3, .ref (A 56)), (4, .int x4), (5, .int x5), (6, .int x6), (7, .int x7)] 12 [] := by
    intro x5 x4 x6 x7 hf
    refine loop_indF (step := (fun k a => fL_isTree_S12 k cs ct cb cg x5 (a.1) (a.2.1) (a.2.2))) (res := res) 8 (fun n a => ∀ c1 s1 : Nat, c1 = 0 + (8 - n) * 1 → s1 = 0 + (8 - n) * 6 → Bk p l e ({ frames := 11, cells := 8, slots := 48, locals := 211 }) s m args below meth c Q A0 D 11 c1 s1 (wLW cI cZ A cs cw ct cu cl cb cp cg) [(0, .ref (A 0)), (1, .ref (A 53)), (2, .ref (A 54)), (3, .ref (A 56)), (4, .int (a.1)), (5, .int x5), (6, .int (a.2.1)), (7, .int (a.2.2))] 12 []) ?_ 8 (Nat.le_refl _) _ hf 0 0 (by decide) (by decide)
    clear hf
    intro n9 hn9 k12 hk12 a hf
    obtain ⟨x4_, x6_, x7_⟩ := a
    clear x4 x6 x7
    obtain ⟨x4, e_⟩ : ∃ z, z = x4_ := ⟨_, rfl⟩
    subst e_
    obtain ⟨x6, e_⟩ : ∃ z, z = x6_ := ⟨_, rfl⟩
    subst e_
    obtain ⟨x7, e_⟩ : ∃ z, z = x7_ := ⟨_, rfl⟩
    subst e_
    have hf : fL_isTree_S12 k12 cs ct cb cg x5 x4 x6 x7 = some res := hf
    intro c1 s1 ec1 es1
    have hcb : c1 + 1 ≤ 8 := by omega
    have hsb : s1 + 6 ≤ 48 := by omega
    have hk12 : ∀ a12, k12 a12 = some res → Bk p l e ({ frames := 11, cells := 8, slots := 48, locals := 211 }) s m args below meth c Q A0 D 11 (c1 + 1) (s1 + 6) (wLW cI cZ A cs cw ct cu cl cb cp cg) [(0, .ref (A 0)), (1, .ref (A 53)), (2, .ref (A 54)), (3, .ref (A 56)), (4, .int (a12.1)), (5, .int x5), (6, .int (a12.2.1)), (7, .int (a12.2.2))] 12 [] := fun a h9 => hk12 a h9 (c1 + 1) (s1 + 6) (by omega) (by omega)
    show Bk p l e ({ frames := 11, cells := 8, slots := 48, locals := 211 }) s m args below meth c Q A0 D 11 c1 s1 (wLW cI cZ A cs cw ct cu cl cb cp cg) [(0, .ref (A 0)), (1, .ref (A 53)), (2, .ref (A 54)), (3, .ref (A 56)), (4, .int x4), (5, .int x5), (6, .int x6), (7, .int x7)] 12 []
    unfold fL_isTree_S12 at hf
    intro H locs hP hD hS ls hl
    refine lv_iload hx hb dL_isTree_12 (lv_at hl 7 rfl) ?_
    refine lv_bipush (v := 6) hx hb dL_isTree_14 (by decide) ?_
    refine lv_icmp_ge (tgt := 227) hx hb dL_isTree_16 (by decide) (fun c16 => ?_) (fun c16 => ?_)
    · have hf := if_t c16 hf
      refine W.widen (k := 8) (n := 48) (by omega) (by omega) ?_
      exact B227 _ _ _ hf H locs hP hD hS ls (lv_sub hl [0, 1, 4, 5, 6] rfl)
    · have hf := if_f c16 hf
      refine lv_iload hx hb dL_isTree_19 (lv_at hl 4 rfl) ?_
      refine lv_if_eq (tgt := 227) hx hb dL_isTree_21 (by decide) (fun c21 => ?_) (fun c21 => ?_)
      · have hf := if_t c21 hf
        refine W.widen (k := 8) (n := 48) (by omega) (by omega) ?_
        exact B227 _ _ _ hf H locs hP hD hS ls (lv_sub hl [0, 1, 4, 5, 6] rfl)
      · have hf := if_f c21 hf
        refine lv_aload_n hx hb dL_isTree_24 rfl (lv_at hl 0 rfl) ?_
        refine lv_iload hx hb dL_isTree_25 (lv_at hl 7 rfl) ?_
        refine lv_iconst (v := 0) hx hb dL_isTree_27 (by decide) ?_
        obtain ⟨q28, h28, hf⟩ := bn_t hf
        refine cl_i (va_runV (As := [.int x7, .int 0]) (rest := []) S (mX5_holds l D cI cZ (aLW_X5_0_1_2_3_4_5_6 A) cs cw ct cu cl cb cp x7 0 H.size q28 h28) (cwV 2 hts gL_isTree_X5_holds rfl rfl rfl (by decide +kernel) ⟨Nat.le_of_ble_eq_true rfl, Nat.le_of_ble_eq_true rfl⟩) (mP_V (ci := 5) (cutLW_X5_0_1_2_3_4_5_6 _ _ _ _ _ _ _ _ _ _ _ st0 st0 st0 st0 st0 st0 st0) hP hD hK hG rfl (gX5_0 _ _ _ _ _ _ _ _ _ _)) rfl rfl hl.1 rfl (lv_room (Nat.le_of_ble_eq_true rfl)) dL_isTree_28 ⟨by show _ ≤ 8; omega, by show _ ≤ 48; omega⟩) (cutLW_X5_0_1_2_3_4_5_6 _ _ _ _ _ _ _ _ _ _ _ _ _ _ _ _ _ _) hP hD hS hA (fun H locs hP hD hS => ?_)
        refine lv_istore (lv' := [(8, .int q28), (0, .ref (A 0)), (1, .ref (A 53)), (2, .ref (A 54)), (3, .ref (A 56)), (4, .int x4), (5, .int x5), (6, .int x6), (7, .int x7)]) hx hb dL_isTree_31 hl (by decide) rfl (fun ls hl => ?_)
        refine lv_aload_n hx hb dL_isTree_33 rfl (lv_at hl 1 rfl) ?_
        refine lv_iload hx hb dL_isTree_34 (lv_at hl 8 rfl) ?_
        refine lv_iconst (v := 1) hx hb dL_isTree_36 (by decide) ?_
        obtain ⟨q37, h37, hf⟩ := bn_t hf
        refine cl_i (va_runV (As := [.int x7, .int 1]) (rest := []) S (mX5_holds l D cI cZ (aLW_X5_0_1_2_3_4_5_6 A) cs cw ct cu cl cb cp x7 1 H.size q37 h37) (cwV 2 hts gL_isTree_X5_holds rfl rfl rfl (by decide +kernel) ⟨Nat.le_of_ble_eq_true rfl, Nat.le_of_ble_eq_true rfl⟩) (mP_V (ci := 5) (cutLW_X5_0_1_2_3_4_5_6 _ _ _ _ _ _ _ _ _ _ _ st0 st0 st0 st0 st0 st0 st0) hP hD hK hG rfl (gX5_0 _ _ _ _ _ _ _ _ _ _)) rfl rfl hl.1 rfl (lv_room (Nat.le_of_ble_eq_true rfl)) dL_isTree_37 ⟨by show _ ≤ 8; omega, by show _ ≤ 48; omega⟩) (cutLW_X5_0_1_2_3_4_5_6 _ _ _ _ _ _ _ _ _ _ _ _ _ _ _ _ _ _) hP hD hS hA (fun H locs hP hD hS => ?_)
        refine lv_istore (lv' := [(9, .int q37), (8, .int q28), (0, .ref (A 0)), (1, .ref (A 53)), (2, .ref (A 54)), (3, .ref (A 56)), (4, .int x4), (5, .int x5), (6, .int x6), (7, .int x7)]) hx hb dL_isTree_40 hl (by decide) rfl (fun ls hl => ?_)
        refine lv_aload_n hx hb dL_isTree_42 rfl (lv_at hl 2 rfl) ?_
        refine lv_aload_n hx hb dL_isTree_43 rfl (lv_at hl 3 rfl) ?_
        refine lv_aload_n hx hb dL_isTree_44 rfl (lv_at hl 4 rfl) ?_
        refine lv_aload_n hx hb dL_isTree_45 rfl (lv_at hl 5 rfl) ?_
        refine lv_iload hx hb dL_isTree_46 (lv_at hl 9 rfl) ?_
        obtain ⟨q48, h48, hf⟩ := bd_t hf
        refine cl_i (va_runS (As := [.ref (A 0), .ref (A 53), .ref (A 54), .ref (A 56), .int x7]) (rest := []) S (mL_found l hfl D cI cZ A cs cw ct cu cl cb cp cg x7 H.size q48 h48) (va_cwS 5 hts gL_isTree_L_found rfl rfl rfl (by decide +kernel) ⟨Nat.le_of_ble_eq_true rfl, Nat.le_of_ble_eq_true rfl⟩) (xP_S (Cut.self _ []) hP hD hS hA hK hG hX hZ) rfl rfl hl.1 rfl (lv_room (Nat.le_of_ble_eq_true rfl)) dL_isTree_48 ⟨by show _ ≤ 8; omega, by show _ ≤ 48; omega⟩) (Cut.self _ _) hP hD hS hA (fun H locs hP hD hS => ?_)
        refine lv_sipush (v := 1000) hx hb dL_isTree_51 (by decide) ?_
        refine lv_iload hx hb dL_isTree_54 (lv_at hl 1 rfl) ?_
        refine lv_imul hx hb dL_isTree_56 ?_
        refine lv_iload hx hb dL_isTree_57 (lv_at hl 0 rfl) ?_
        refine lv_iadd hx hb dL_isTree_59 ?_
        refine lv_icmp_ne (tgt := 67) hx hb dL_isTree_60 (by decide) (fun c60 => ?_) (fun c60 => ?_)
        · have hf := if_f c60 hf
          refine lv_iconst (v := 0) hx hb dL_isTree_67 (by decide) ?_
          refine W.widen (k := c1 + 1) (n := s1 + 6) (by omega) (by omega) ?_
          exact B68 _ _ _ _ _ _ c1 s1 hcb hsb k12 hk12 hf H locs hP hD hS ls (lv_sub hl [2, 3, 4, 5, 7, 8, 9, 1, 0] rfl)
        · have hf := if_t c60 hf
          refine lv_iconst (v := 1) hx hb dL_isTree_63 (by decide) ?_
          refine lv_goto (tgt := 68) hx hb dL_isTree_64 (by decide) ?_
          refine W.widen (k := c1 + 1) (n := s1 + 6) (by omega) (by omega) ?_
          exact B68 _ _ _ _ _ _ c1 s1 hcb hsb k12 hk12 hf H locs hP hD hS ls (lv_sub hl [2, 3, 4, 5, 7, 8, 9, 1, 0] rfl)
  intro H locs hP hD hS ls hl
  have hl : lv_has ls 11 [(0, .ref (A 0)), (1, .ref (A 53)), (2, .ref (A 54)), (3, .ref (A 56))] := hl
  unfold fL_isTree at hf
  refine lv_iconst (v := 1) hx hb dL_isTree_0 (by decide) ?_
  refine lv_istore (lv' := [(4, .int 1), (0, .ref (A 0)), (1, .ref (A 53)), (2, .ref (A 54)), (3, .ref (A 56))]) hx hb dL_isTree_1 hl (by decide) rfl (fun ls hl => ?_)
  refine lv_iconst (v := 0) hx hb dL_isTree_3 (by decide) ?_
  refine lv_istore (lv' := [(5, .int 0), (4, .int 1), (0, .ref (A 0)), (1, .ref (A 53)), (2, .ref (A 54)), (3, .ref (A 56))]) hx hb dL_isTree_4 hl (by decide) rfl (fun ls hl => ?_)
  refine lv_iconst (v := 0) hx hb dL_isTree_6 (by decide) ?_
  refine lv_istore (lv' := [(6, .int 0), (5, .int 0), (4, .int 1), (0, .ref (A 0)), (1, .ref (A 53)), (2, .ref (A 54)), (3, .ref (A 56))]) hx hb dL_isTree_7 hl (by decide) rfl (fun ls hl => ?_)
  refine lv_iconst (v := 0) hx hb dL_isTree_9 (by decide) ?_
  refine lv_istore (lv' := [(7, .int 0), (6, .int 0), (5, .int 0), (4, .int 1), (0, .ref (A 0)), (1, .ref (A 53)), (2, .ref (A 54)), (3, .ref (A 56))]) hx hb dL_isTree_10 hl (by decide) rfl (fun ls hl => ?_)
  refine W.widen (k := 0) (n := 0) (by omega) (by omega) ?_
  exact B12 _ _ _ _ hf H locs hP hD hS ls (lv_sub hl [4, 5, 6, 7, 3, 2, 1, 0] rfl)

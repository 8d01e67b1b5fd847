theorem law_x4 (j : Nat) : Int32.ofNat (6 * j) + 6 = Int32.ofNat (6 * (j + 1)) := by
  show Int32.ofNat (6 * j) + Int32.ofNat 6 = _
  rw [← Int32.ofNat_add]
  rfl
theorem law_fin0 : ∀ q, q < 56 → ∀ r, r < 56 → 56 * q + r < 3073 → Int32.ofNat (56 * q + r) - 6 < Int32.ofNat (6 * 512) := by decide +kernel
theorem law_fin (L : Nat) (h : L < 3073) : Int32.ofNat L - 6 < Int32.ofNat (6 * 512) := by
  have e : 56 * (L / 56) + L % 56 = L := Nat.div_add_mod L 56
  have h1 := law_fin0 (L / 56) (by omega) (L % 56) (by omega) (by omega)
  rw [e] at h1
  exact h1
theorem law_j {L j : Nat} (hL : L ≤ 3072) (hj : j ≤ 512) (h : ¬ Int32.ofNat L - 6 < Int32.ofNat (6 * j)) : j + 1 ≤ 512 := by
  rcases Nat.lt_or_ge j 512 with q | q
  · exact q
  · have e : j = 512 := by omega
    subst e
    exact absurd (law_fin L (by omega)) h
set_option maxHeartbeats 16000000 in
set_option maxRecDepth 100000 in
theorem law_loop {p : Program} {e : Env} {s : State} {m : MethodId} {below : List Frame} {meth : Method} {c : Code} (l : Launch) (hfl : l.stackTraces = false) {b L : Nat} {xs : Nat → Int32} (hL : L ≤ 3072) (C0 : lw_At p s m meth c b L xs) (D : va_G) (cI cZ cJ : ClassId) (A : Nat → Nat) (hK : va_K D vwCl (tysL cI cZ cJ) s) (hG : gS s) (hX : gX s) (hZ : xS (fun q : Nat => s.heap.size ≤ q) s s.heap) (c0 s0 : Nat) (hc0 : c0 + 512 ≤ 1131) (hs0 : s0 + 3072 ≤ 22178) : ∀ (n : Nat) (a : (St × St × St × St × St × St × St × St × (Nat → Int64) × Int32)), loopN (fun k a => fL_law_S23 k L xs (a.1) (a.2.1) (a.2.2.1) (a.2.2.2.1) (a.2.2.2.2.1) (a.2.2.2.2.2.1) (a.2.2.2.2.2.2.1) (a.2.2.2.2.2.2.2.1) (a.2.2.2.2.2.2.2.2.1) (a.2.2.2.2.2.2.2.2.2)) n a = some 1 → ∀ (j : Nat), a.2.2.2.2.2.2.2.2.2 = Int32.ofNat (6 * j) → j ≤ 512 → ∀ (H : Heap) (locs : List Loc), va_P D vwCl (wLL cI cZ cJ A (a.1) (a.2.1) (a.2.2.1) (a.2.2.2.1) (a.2.2.2.2.1) (a.2.2.2.2.2.1) (a.2.2.2.2.2.2.1) (a.2.2.2.2.2.2.2.1) (a.2.2.2.2.2.2.2.2.1)) H → va_D (fun q : Nat => s.heap.size ≤ q) (wLL cI cZ cJ A (a.1) (a.2.1) (a.2.2.1) (a.2.2.2.1) (a.2.2.2.2.1) (a.2.2.2.2.2.1) (a.2.2.2.2.2.2.1) (a.2.2.2.2.2.2.2.1) (a.2.2.2.2.2.2.2.2.1)) → va_S (fun q : Nat => s.heap.size ≤ q) s.heap H locs → ∀ ls : Array Slot, lv_has ls 7 [(0, .ref b), (1, .ref (A 0)), (2, .ref (A 53)), (3, .ref (A 91)), (4, .int (a.2.2.2.2.2.2.2.2.2))] → W p l e room_1 s m #[Value.ref b] below meth c H locs (c0 + j) (s0 + 6 * j) (lw_Z below #[Value.ref b] s) (F0 m 23 ls []) := by
  obtain ⟨hx, hb, hr, hml, hown, hts0, hXs, hbl, hlocks, hgv⟩ := C0
  have hts : ∀ w ∈ wsL_law, w.before #[Value.ref b] s = true := fun w h => hts0 w (wsL_law_in w h)
  have S : CallFix p m c cL_law 7 s #[Value.ref b] wsL_law RL := ⟨hx, hb, hml, hown, hts⟩
  have hA : ∀ q : Nat, s.heap.size ≤ q → (fun q : Nat => s.heap.size ≤ q) q := fun _ h => h
  have hbA : ¬ (fun q : Nat => s.heap.size ≤ q) b := Nat.not_le.mpr hbl
  refine loop_ind (step := (fun k a => fL_law_S23 k L xs (a.1) (a.2.1) (a.2.2.1) (a.2.2.2.1) (a.2.2.2.2.1) (a.2.2.2.2.2.1) (a.2.2.2.2.2.2.1) (a.2.2.2.2.2.2.2.1) (a.2.2.2.2.2.2.2.2.1) (a.2.2.2.2.2.2.2.2.2))) (res := 1) (fun a => ∀ (j : Nat), a.2.2.2.2.2.2.2.2.2 = Int32.ofNat (6 * j) → j ≤ 512 → ∀ (H : Heap) (locs : List Loc), va_P D vwCl (wLL cI cZ cJ A (a.1) (a.2.1) (a.2.2.1) (a.2.2.2.1) (a.2.2.2.2.1) (a.2.2.2.2.2.1) (a.2.2.2.2.2.2.1) (a.2.2.2.2.2.2.2.1) (a.2.2.2.2.2.2.2.2.1)) H → va_D (fun q : Nat => s.heap.size ≤ q) (wLL cI cZ cJ A (a.1) (a.2.1) (a.2.2.1) (a.2.2.2.1) (a.2.2.2.2.1) (a.2.2.2.2.2.1) (a.2.2.2.2.2.2.1) (a.2.2.2.2.2.2.2.1) (a.2.2.2.2.2.2.2.2.1)) → va_S (fun q : Nat => s.heap.size ≤ q) s.heap H locs → ∀ ls : Array Slot, lv_has ls 7 [(0, .ref b), (1, .ref (A 0)), (2, .ref (A 53)), (3, .ref (A 91)), (4, .int (a.2.2.2.2.2.2.2.2.2))] → W p l e room_1 s m #[Value.ref b] below meth c H locs (c0 + j) (s0 + 6 * j) (lw_Z below #[Value.ref b] s) (F0 m 23 ls [])) ?_
  intro k23 hk23 a hf
  obtain ⟨cs, cw, ct, cu, cl, cb, cp, mm, co, x4⟩ := a
  intro j ex4 hj0 H locs hP hD hS ls hl
  have hf : fL_law_S23 k23 L xs cs cw ct cu cl cb cp mm co x4 = some 1 := hf
  have ex4 : x4 = Int32.ofNat (6 * j) := ex4
  have hP : va_P D vwCl (wLL cI cZ cJ A cs cw ct cu cl cb cp mm co) H := hP
  have hD : va_D (fun q : Nat => s.heap.size ≤ q) (wLL cI cZ cJ A cs cw ct cu cl cb cp mm co) := hD
  have hl : lv_has ls 7 [(0, .ref b), (1, .ref (A 0)), (2, .ref (A 53)), (3, .ref (A 91)), (4, .int x4)] := hl
  unfold fL_law_S23 at hf
  refine lv_iload hx hb dL_law_23 (lv_at hl 4 rfl) ?_
  refine lv_aload_n hx hb dL_law_25 rfl (lv_at hl 0 rfl) ?_
  refine va_slen hx hb hXs hbl hbA hS dL_law_26 ?_
  refine lv_bipush (v := 6) hx hb dL_law_27 (by decide) ?_
  refine lv_isub hx hb dL_law_29 ?_
  refine lv_icmp_gt (tgt := 1394) hx hb dL_law_30 (by decide) (fun c30 => ?_) (fun c30 => ?_)
  · have hf := if_t c30 hf
    refine lv_iconst (v := 1) hx hb dL_law_1394 (by decide) ?_
    refine va_forget (fun q hq => hS.2.2 q hq) ?_
    refine W.widen (k := 1131) (n := 22178) (by omega) (by omega) ?_
    exact lw_ret hx hb hr hlocks dL_law_1395
  · have hf := if_f c30 hf
    have hj : j + 1 ≤ 512 := law_j hL hj0 (by rw [← ex4]; exact c30)
    refine lv_aload_n hx hb dL_law_33 rfl (lv_at hl 0 rfl) ?_
    refine lv_iload hx hb dL_law_34 (lv_at hl 4 rfl) ?_
    obtain ⟨c36, hf⟩ := ck_t hf
    refine va_sld hx hb hXs hbl hbA hS (inb_in c36) dL_law_36 ?_
    refine lv_bipush (v := 31) hx hb dL_law_37 (by decide) ?_
    refine lv_iand hx hb dL_law_39 ?_
    by_cases c40_0 : ((xs x4.toNatClampNeg) &&& 31) = 0
    · have hf := if_t c40_0 hf
      refine lv_tableIn (off := 88) (tgt := 128) hx hb dL_law_40 (by rw [c40_0]; decide) (by rw [c40_0]; decide) (by rw [c40_0]; decide) (by decide) ?_
      refine lv_aload_n hx hb dL_law_128 rfl (lv_at hl 1 rfl) ?_
      refine lv_aload_n hx hb dL_law_129 rfl (lv_at hl 0 rfl) ?_
      refine lv_iload hx hb dL_law_130 (lv_at hl 4 rfl) ?_
      refine lv_iconst (v := 1) hx hb dL_law_132 (by decide) ?_
      refine lv_iadd hx hb dL_law_133 ?_
      obtain ⟨c134, hf⟩ := ck_t hf
      refine va_sld hx hb hXs hbl hbA hS (inb_in c134) dL_law_134 ?_
      refine lv_aload_n hx hb dL_law_135 rfl (lv_at hl 0 rfl) ?_
      refine lv_iload hx hb dL_law_136 (lv_at hl 4 rfl) ?_
      refine lv_iconst (v := 2) hx hb dL_law_138 (by decide) ?_
      refine lv_iadd hx hb dL_law_139 ?_
      obtain ⟨c140, hf⟩ := ck_t hf
      refine va_sld hx hb hXs hbl hbA hS (inb_in c140) dL_law_140 ?_
      refine lv_aload_n hx hb dL_law_141 rfl (lv_at hl 0 rfl) ?_
      refine lv_iload hx hb dL_law_142 (lv_at hl 4 rfl) ?_
      refine lv_iconst (v := 3) hx hb dL_law_144 (by decide) ?_
      refine lv_iadd hx hb dL_law_145 ?_
      obtain ⟨c146, hf⟩ := ck_t hf
      refine va_sld hx hb hXs hbl hbA hS (inb_in c146) dL_law_146 ?_
      refine lv_aload_n hx hb dL_law_147 rfl (lv_at hl 0 rfl) ?_
      refine lv_iload hx hb dL_law_148 (lv_at hl 4 rfl) ?_
      refine lv_iconst (v := 4) hx hb dL_law_150 (by decide) ?_
      refine lv_iadd hx hb dL_law_151 ?_
      obtain ⟨c152, hf⟩ := ck_t hf
      refine va_sld hx hb hXs hbl hbA hS (inb_in c152) dL_law_152 ?_
      refine lv_aload_n hx hb dL_law_153 rfl (lv_at hl 0 rfl) ?_
      refine lv_iload hx hb dL_law_154 (lv_at hl 4 rfl) ?_
      refine lv_iconst (v := 5) hx hb dL_law_156 (by decide) ?_
      refine lv_iadd hx hb dL_law_157 ?_
      obtain ⟨c158, hf⟩ := ck_t hf
      refine va_sld hx hb hXs hbl hbA hS (inb_in c158) dL_law_158 ?_
      refine lv_aload_n hx hb dL_law_159 rfl (lv_at hl 3 rfl) ?_
      obtain ⟨q160, h160, hf⟩ := bd_t hf
      refine cl_i (vx_runSW (As := [.ref (A 0), .int (xs (x4 + 1).toNatClampNeg), .int (xs (x4 + 2).toNatClampNeg), .int (xs (x4 + 3).toNatClampNeg), .int (xs (x4 + 4).toNatClampNeg), .int (xs (x4 + 5).toNatClampNeg), .ref (A 91)]) (rest := []) S (mL_wire l hfl D cI cZ cJ (aLL_LW_0_1_2_3_4_5_6_8 A) cs cw ct cu cl cb cp co (xs (x4 + 1).toNatClampNeg) (xs (x4 + 2).toNatClampNeg) (xs (x4 + 3).toNatClampNeg) (xs (x4 + 4).toNatClampNeg) (xs (x4 + 5).toNatClampNeg) H.size q160 h160) (vx_cwSW 7 hts gL_law_L_wire rfl rfl rfl (by decide +kernel) ⟨Nat.le_of_ble_eq_true rfl, Nat.le_of_ble_eq_true rfl⟩) (xP_S (cutLL_LW_0_1_2_3_4_5_6_8 _ _ _ _ _ _ _ _ _ _ _ _ _ st0 st0 st0 st0 st0 st0 st0 (fun _ => 0)) hP hD hS hA hK hG hX hZ) rfl rfl hl.1 rfl (lv_room (Nat.le_of_ble_eq_true rfl)) dL_law_160 ⟨by show _ ≤ 1131; omega, by show _ ≤ 22178; omega⟩) (cutLL_LW_0_1_2_3_4_5_6_8 _ _ _ _ _ _ _ _ _ _ _ _ _ _ _ _ _ _ _ _ _) hP hD hS hA (fun H locs hP hD hS => ?_)
      refine lv_istore (lv' := [(5, .int q160.1), (0, .ref b), (1, .ref (A 0)), (2, .ref (A 53)), (3, .ref (A 91)), (4, .int x4)]) hx hb dL_law_163 hl (by decide) rfl (fun ls hl => ?_)
      refine lv_aload_n hx hb dL_law_165 rfl (lv_at hl 3 rfl) ?_
      refine lv_aload_n hx hb dL_law_166 rfl (lv_at hl 1 rfl) ?_
      refine lv_iload hx hb dL_law_167 (lv_at hl 5 rfl) ?_
      refine lv_iconst (v := 1) hx hb dL_law_169 (by decide) ?_
      refine lv_iadd hx hb dL_law_170 ?_
      obtain ⟨c171, hf⟩ := ck_t hf
      refine va_sld hx hb hXs hbl hbA hS (inb_in c171) dL_law_171 ?_
      refine lv_aload_n hx hb dL_law_172 rfl (lv_at hl 1 rfl) ?_
      refine lv_iload hx hb dL_law_173 (lv_at hl 5 rfl) ?_
      refine lv_iconst (v := 2) hx hb dL_law_175 (by decide) ?_
      refine lv_iadd hx hb dL_law_176 ?_
      obtain ⟨c177, hf⟩ := ck_t hf
      refine va_sld hx hb hXs hbl hbA hS (inb_in c177) dL_law_177 ?_
      refine lv_aload_n hx hb dL_law_178 rfl (lv_at hl 1 rfl) ?_
      refine lv_iload hx hb dL_law_179 (lv_at hl 5 rfl) ?_
      refine lv_iconst (v := 3) hx hb dL_law_181 (by decide) ?_
      refine lv_iadd hx hb dL_law_182 ?_
      obtain ⟨c183, hf⟩ := ck_t hf
      refine va_sld hx hb hXs hbl hbA hS (inb_in c183) dL_law_183 ?_
      refine lv_aload_n hx hb dL_law_184 rfl (lv_at hl 1 rfl) ?_
      refine lv_iload hx hb dL_law_185 (lv_at hl 5 rfl) ?_
      refine lv_iconst (v := 4) hx hb dL_law_187 (by decide) ?_
      refine lv_iadd hx hb dL_law_188 ?_
      obtain ⟨c189, hf⟩ := ck_t hf
      refine va_sld hx hb hXs hbl hbA hS (inb_in c189) dL_law_189 ?_
      refine lv_aload_n hx hb dL_law_190 rfl (lv_at hl 1 rfl) ?_
      refine lv_iload hx hb dL_law_191 (lv_at hl 5 rfl) ?_
      refine lv_iconst (v := 5) hx hb dL_law_193 (by decide) ?_
      refine lv_iadd hx hb dL_law_194 ?_
      obtain ⟨c195, hf⟩ := ck_t hf
      refine va_sld hx hb hXs hbl hbA hS (inb_in c195) dL_law_195 ?_
      obtain ⟨q196, h196, hf⟩ := bd_t hf
      refine cl_i (va_runV (As := [.int (xs (x4 + 1).toNatClampNeg), .int (xs (x4 + 2).toNatClampNeg), .int (xs (x4 + 3).toNatClampNeg), .int (xs (x4 + 4).toNatClampNeg), .int (xs (x4 + 5).toNatClampNeg)]) (rest := []) S (mX6_wire l D cI cZ (aLL_X6_7 A) mm (xs (x4 + 1).toNatClampNeg) (xs (x4 + 2).toNatClampNeg) (xs (x4 + 3).toNatClampNeg) (xs (x4 + 4).toNatClampNeg) (xs (x4 + 5).toNatClampNeg) H.size q196 h196) (cwV 5 hts gL_law_X6_wire rfl rfl rfl (by decide +kernel) ⟨Nat.le_of_ble_eq_true rfl, Nat.le_of_ble_eq_true rfl⟩) (mP_V (ci := 6) (cutLL_X6_7 _ _ _ _ _ _ _ _ _ _ _ _ _ st0) hP hD (hK.sub [0, 1] rfl) hG rfl (gX6_0 _ _ _ _)) rfl rfl hl.1 rfl (lv_room (Nat.le_of_ble_eq_true rfl)) dL_law_196 ⟨by show _ ≤ 1131; omega, by show _ ≤ 22178; omega⟩) (cutLL_X6_7 _ _ _ _ _ _ _ _ _ _ _ _ _ _) hP hD hS hA (fun H locs hP hD hS => ?_)
      refine lv_istore (lv' := [(6, .int q196.1), (5, .int q160.1), (0, .ref b), (1, .ref (A 0)), (2, .ref (A 53)), (3, .ref (A 91)), (4, .int x4)]) hx hb dL_law_199 hl (by decide) rfl (fun ls hl => ?_)
      refine lv_aload_n hx hb dL_law_201 rfl (lv_at hl 4 rfl) ?_
      obtain ⟨q202, h202, hf⟩ := bd_t hf
      refine cl_i (va_runV (As := []) (rest := []) S (mX6_thrown l D cI cZ (aLL_X6_7 A) (q196.2) H.size q202 h202) (cwV 0 hts gL_law_X6_thrown rfl rfl rfl (by decide +kernel) ⟨Nat.le_of_ble_eq_true rfl, Nat.le_of_ble_eq_true rfl⟩) (mP_V (ci := 6) (cutLL_X6_7 _ _ _ _ _ _ _ _ _ _ _ _ _ st0) hP hD (hK.sub [0, 1] rfl) hG rfl (gX6_0 _ _ _ _)) rfl rfl hl.1 rfl (lv_room (Nat.le_of_ble_eq_true rfl)) dL_law_202 ⟨by show _ ≤ 1131; omega, by show _ ≤ 22178; omega⟩) (cutLL_X6_7 _ _ _ _ _ _ _ _ _ _ _ _ _ _) hP hD hS hA (fun H locs hP hD hS => ?_)
      refine lv_iload hx hb dL_law_205 (lv_at hl 1 rfl) ?_
      refine lv_icmp_eq (tgt := 212) hx hb dL_law_207 (by decide) (fun c207 => ?_) (fun c207 => ?_)
      · have hf := if_t c207 hf
        refine lv_iload hx hb dL_law_212 (lv_at hl 1 rfl) ?_
        refine lv_if_ne (tgt := 229) hx hb dL_law_214 (by decide) (fun c214 => ?_) (fun c214 => ?_)
        · have hf := if_f c214 hf
          refine lv_goto (tgt := 1388) hx hb dL_law_229 (by decide) ?_
          refine lv_iinc (v := x4 + 6) (lv' := [(4, .int (x4 + 6)), (6, .int q196.1), (5, .int q160.1), (0, .ref b), (1, .ref (A 0)), (2, .ref (A 53)), (3, .ref (A 91))]) hx hb dL_law_1388 hl (k := 6) rfl rfl (by decide) rfl (fun ls hl => ?_)
          refine lv_goto (tgt := 23) hx hb dL_law_1391 (by decide) ?_
          refine W.widen (k := c0 + (j + 1)) (n := s0 + 6 * (j + 1)) (by omega) (by omega) ?_
          exact hk23 _ hf (j + 1) (by show x4 + 6 = _; rw [ex4]; exact law_x4 j) hj H locs hP hD hS ls (lv_sub hl [3, 4, 5, 6, 0] rfl)
        · have hf := if_t c214 hf
          refine lv_aload_n hx hb dL_law_217 rfl (lv_at hl 5 rfl) ?_
          refine lv_iconst (v := 0) hx hb dL_law_218 (by decide) ?_
          refine va_lald hx hb hK hP 91 2 (gLL_91 _ _ _ _ _ _ _ _ _ _ _ _ _) rfl (inb_in (by decide)) dL_law_219 ?_
          refine lv_iload hx hb dL_law_220 (lv_at hl 0 rfl) ?_
          refine lv_i2l hx hb dL_law_222 rfl ?_
          refine W.lcmp hx hb dL_law_223 ?_
          refine lv_if_eq (tgt := 229) hx hb dL_law_224 (by decide) (fun c224 => ?_) (fun c224 => ?_)
          · have hf := if_t c224 hf
            refine lv_goto (tgt := 1388) hx hb dL_law_229 (by decide) ?_
            refine lv_iinc (v := x4 + 6) (lv' := [(4, .int (x4 + 6)), (6, .int q196.1), (5, .int q160.1), (0, .ref b), (1, .ref (A 0)), (2, .ref (A 53)), (3, .ref (A 91))]) hx hb dL_law_1388 hl (k := 6) rfl rfl (by decide) rfl (fun ls hl => ?_)
            refine lv_goto (tgt := 23) hx hb dL_law_1391 (by decide) ?_
            refine W.widen (k := c0 + (j + 1)) (n := s0 + 6 * (j + 1)) (by omega) (by omega) ?_
            exact hk23 _ hf (j + 1) (by show x4 + 6 = _; rw [ex4]; exact law_x4 j) hj H locs hP hD hS ls (lv_sub hl [3, 4, 5, 6, 0] rfl)
          · have hf := if_f c224 hf
            refine lv_iconst (v := 0) hx hb dL_law_227 (by decide) ?_
            exact absurd (Option.some.inj hf) (by decide)
      · have hf := if_f c207 hf
        refine lv_iconst (v := 0) hx hb dL_law_210 (by decide) ?_
        exact absurd (Option.some.inj hf) (by decide)
    have hf := if_f c40_0 hf
    by_cases c40_1 : ((xs x4.toNatClampNeg) &&& 31) = 1
    · have hf := if_t c40_1 hf
      refine lv_tableIn (off := 192) (tgt := 232) hx hb dL_law_40 (by rw [c40_1]; decide) (by rw [c40_1]; decide) (by rw [c40_1]; decide) (by decide) ?_
      refine lv_aload_n hx hb dL_law_232 rfl (lv_at hl 1 rfl) ?_
      refine lv_aload_n hx hb dL_law_233 rfl (lv_at hl 0 rfl) ?_
      refine lv_iload hx hb dL_law_234 (lv_at hl 4 rfl) ?_
      refine lv_iconst (v := 1) hx hb dL_law_236 (by decide) ?_
      refine lv_iadd hx hb dL_law_237 ?_
      obtain ⟨c238, hf⟩ := ck_t hf
      refine va_sld hx hb hXs hbl hbA hS (inb_in c238) dL_law_238 ?_
      refine lv_aload_n hx hb dL_law_239 rfl (lv_at hl 0 rfl) ?_
      refine lv_iload hx hb dL_law_240 (lv_at hl 4 rfl) ?_
      refine lv_iconst (v := 2) hx hb dL_law_242 (by decide) ?_
      refine lv_iadd hx hb dL_law_243 ?_
      obtain ⟨c244, hf⟩ := ck_t hf
      refine va_sld hx hb hXs hbl hbA hS (inb_in c244) dL_law_244 ?_
      refine lv_aload_n hx hb dL_law_245 rfl (lv_at hl 3 rfl) ?_
      obtain ⟨q246, h246, hf⟩ := bd_t hf
      refine cl_i (vx_runSW (As := [.ref (A 0), .int (xs (x4 + 1).toNatClampNeg), .int (xs (x4 + 2).toNatClampNeg), .ref (A 91)]) (rest := []) S (mL_free l hfl D cI cZ cJ (aLL_LW_0_1_2_3_4_5_6_8 A) cs cw ct cu cl cb cp co (xs (x4 + 1).toNatClampNeg) (xs (x4 + 2).toNatClampNeg) H.size q246 h246) (vx_cwSW 4 hts gL_law_L_free rfl rfl rfl (by decide +kernel) ⟨Nat.le_of_ble_eq_true rfl, Nat.le_of_ble_eq_true rfl⟩) (xP_S (cutLL_LW_0_1_2_3_4_5_6_8 _ _ _ _ _ _ _ _ _ _ _ _ _ st0 st0 st0 st0 st0 st0 st0 (fun _ => 0)) hP hD hS hA hK hG hX hZ) rfl rfl hl.1 rfl (lv_room (Nat.le_of_ble_eq_true rfl)) dL_law_246 ⟨by show _ ≤ 1131; omega, by show _ ≤ 22178; omega⟩) (cutLL_LW_0_1_2_3_4_5_6_8 _ _ _ _ _ _ _ _ _ _ _ _ _ _ _ _ _ _ _ _ _) hP hD hS hA (fun H locs hP hD hS => ?_)
      refine lv_istore (lv' := [(5, .int q246.1), (0, .ref b), (1, .ref (A 0)), (2, .ref (A 53)), (3, .ref (A 91)), (4, .int x4)]) hx hb dL_law_249 hl (by decide) rfl (fun ls hl => ?_)
      refine lv_aload_n hx hb dL_law_251 rfl (lv_at hl 3 rfl) ?_
      refine lv_aload_n hx hb dL_law_252 rfl (lv_at hl 1 rfl) ?_
      refine lv_iload hx hb dL_law_253 (lv_at hl 5 rfl) ?_
      refine lv_iconst (v := 1) hx hb dL_law_255 (by decide) ?_
      refine lv_iadd hx hb dL_law_256 ?_
      obtain ⟨c257, hf⟩ := ck_t hf
      refine va_sld hx hb hXs hbl hbA hS (inb_in c257) dL_law_257 ?_
      refine lv_aload_n hx hb dL_law_258 rfl (lv_at hl 1 rfl) ?_
      refine lv_iload hx hb dL_law_259 (lv_at hl 5 rfl) ?_
      refine lv_iconst (v := 2) hx hb dL_law_261 (by decide) ?_
      refine lv_iadd hx hb dL_law_262 ?_
      obtain ⟨c263, hf⟩ := ck_t hf
      refine va_sld hx hb hXs hbl hbA hS (inb_in c263) dL_law_263 ?_
      obtain ⟨q264, h264, hf⟩ := bd_t hf
      refine cl_i (va_runV (As := [.int (xs (x4 + 1).toNatClampNeg), .int (xs (x4 + 2).toNatClampNeg)]) (rest := []) S (mX6_free l D cI cZ (aLL_X6_7 A) mm (xs (x4 + 1).toNatClampNeg) (xs (x4 + 2).toNatClampNeg) H.size q264 h264) (cwV 2 hts gL_law_X6_free rfl rfl rfl (by decide +kernel) ⟨Nat.le_of_ble_eq_true rfl, Nat.le_of_ble_eq_true rfl⟩) (mP_V (ci := 6) (cutLL_X6_7 _ _ _ _ _ _ _ _ _ _ _ _ _ st0) hP hD (hK.sub [0, 1] rfl) hG rfl (gX6_0 _ _ _ _)) rfl rfl hl.1 rfl (lv_room (Nat.le_of_ble_eq_true rfl)) dL_law_264 ⟨by show _ ≤ 1131; omega, by show _ ≤ 22178; omega⟩) (cutLL_X6_7 _ _ _ _ _ _ _ _ _ _ _ _ _ _) hP hD hS hA (fun H locs hP hD hS => ?_)
      refine lv_istore (lv' := [(6, .int q264.1), (5, .int q246.1), (0, .ref b), (1, .ref (A 0)), (2, .ref (A 53)), (3, .ref (A 91)), (4, .int x4)]) hx hb dL_law_267 hl (by decide) rfl (fun ls hl => ?_)
      refine lv_aload_n hx hb dL_law_269 rfl (lv_at hl 4 rfl) ?_
      obtain ⟨q270, h270, hf⟩ := bd_t hf
      refine cl_i (va_runV (As := []) (rest := []) S (mX6_thrown l D cI cZ (aLL_X6_7 A) (q264.2) H.size q270 h270) (cwV 0 hts gL_law_X6_thrown rfl rfl rfl (by decide +kernel) ⟨Nat.le_of_ble_eq_true rfl, Nat.le_of_ble_eq_true rfl⟩) (mP_V (ci := 6) (cutLL_X6_7 _ _ _ _ _ _ _ _ _ _ _ _ _ st0) hP hD (hK.sub [0, 1] rfl) hG rfl (gX6_0 _ _ _ _)) rfl rfl hl.1 rfl (lv_room (Nat.le_of_ble_eq_true rfl)) dL_law_270 ⟨by show _ ≤ 1131; omega, by show _ ≤ 22178; omega⟩) (cutLL_X6_7 _ _ _ _ _ _ _ _ _ _ _ _ _ _) hP hD hS hA (fun H locs hP hD hS => ?_)
      refine lv_iload hx hb dL_law_273 (lv_at hl 1 rfl) ?_
      refine lv_icmp_eq (tgt := 280) hx hb dL_law_275 (by decide) (fun c275 => ?_) (fun c275 => ?_)
      · have hf := if_t c275 hf
        refine lv_iload hx hb dL_law_280 (lv_at hl 1 rfl) ?_
        refine lv_if_ne (tgt := 297) hx hb dL_law_282 (by decide) (fun c282 => ?_) (fun c282 => ?_)
        · have hf := if_f c282 hf
          refine lv_goto (tgt := 1388) hx hb dL_law_297 (by decide) ?_
          refine lv_iinc (v := x4 + 6) (lv' := [(4, .int (x4 + 6)), (6, .int q264.1), (5, .int q246.1), (0, .ref b), (1, .ref (A 0)), (2, .ref (A 53)), (3, .ref (A 91))]) hx hb dL_law_1388 hl (k := 6) rfl rfl (by decide) rfl (fun ls hl => ?_)
          refine lv_goto (tgt := 23) hx hb dL_law_1391 (by decide) ?_
          refine W.widen (k := c0 + (j + 1)) (n := s0 + 6 * (j + 1)) (by omega) (by omega) ?_
          exact hk23 _ hf (j + 1) (by show x4 + 6 = _; rw [ex4]; exact law_x4 j) hj H locs hP hD hS ls (lv_sub hl [3, 4, 5, 6, 0] rfl)
        · have hf := if_t c282 hf
          refine lv_aload_n hx hb dL_law_285 rfl (lv_at hl 5 rfl) ?_
          refine lv_iconst (v := 0) hx hb dL_law_286 (by decide) ?_
          refine va_lald hx hb hK hP 91 2 (gLL_91 _ _ _ _ _ _ _ _ _ _ _ _ _) rfl (inb_in (by decide)) dL_law_287 ?_
          refine lv_iload hx hb dL_law_288 (lv_at hl 0 rfl) ?_
          refine lv_i2l hx hb dL_law_290 rfl ?_
          refine W.lcmp hx hb dL_law_291 ?_
          refine lv_if_eq (tgt := 297) hx hb dL_law_292 (by decide) (fun c292 => ?_) (fun c292 => ?_)
          · have hf := if_t c292 hf
            refine lv_goto (tgt := 1388) hx hb dL_law_297 (by decide) ?_
            refine lv_iinc (v := x4 + 6) (lv' := [(4, .int (x4 + 6)), (6, .int q264.1), (5, .int q246.1), (0, .ref b), (1, .ref (A 0)), (2, .ref (A 53)), (3, .ref (A 91))]) hx hb dL_law_1388 hl (k := 6) rfl rfl (by decide) rfl (fun ls hl => ?_)
            refine lv_goto (tgt := 23) hx hb dL_law_1391 (by decide) ?_
            refine W.widen (k := c0 + (j + 1)) (n := s0 + 6 * (j + 1)) (by omega) (by omega) ?_
            exact hk23 _ hf (j + 1) (by show x4 + 6 = _; rw [ex4]; exact law_x4 j) hj H locs hP hD hS ls (lv_sub hl [3, 4, 5, 6, 0] rfl)
          · have hf := if_f c292 hf
            refine lv_iconst (v := 0) hx hb dL_law_295 (by decide) ?_
            exact absurd (Option.some.inj hf) (by decide)
      · have hf := if_f c275 hf
        refine lv_iconst (v := 0) hx hb dL_law_278 (by decide) ?_
        exact absurd (Option.some.inj hf) (by decide)
    have hf := if_f c40_1 hf
    by_cases c40_2 : ((xs x4.toNatClampNeg) &&& 31) = 2
    · have hf := if_t c40_2 hf
      refine lv_tableIn (off := 260) (tgt := 300) hx hb dL_law_40 (by rw [c40_2]; decide) (by rw [c40_2]; decide) (by rw [c40_2]; decide) (by decide) ?_
      refine lv_aload_n hx hb dL_law_300 rfl (lv_at hl 1 rfl) ?_
      refine lv_aload_n hx hb dL_law_301 rfl (lv_at hl 0 rfl) ?_
      refine lv_iload hx hb dL_law_302 (lv_at hl 4 rfl) ?_
      refine lv_iconst (v := 1) hx hb dL_law_304 (by decide) ?_
      refine lv_iadd hx hb dL_law_305 ?_
      obtain ⟨c306, hf⟩ := ck_t hf
      refine va_sld hx hb hXs hbl hbA hS (inb_in c306) dL_law_306 ?_
      refine lv_aload_n hx hb dL_law_307 rfl (lv_at hl 0 rfl) ?_
      refine lv_iload hx hb dL_law_308 (lv_at hl 4 rfl) ?_
      refine lv_iconst (v := 2) hx hb dL_law_310 (by decide) ?_
      refine lv_iadd hx hb dL_law_311 ?_
      obtain ⟨c312, hf⟩ := ck_t hf
      refine va_sld hx hb hXs hbl hbA hS (inb_in c312) dL_law_312 ?_
      refine lv_aload_n hx hb dL_law_313 rfl (lv_at hl 0 rfl) ?_
      refine lv_iload hx hb dL_law_314 (lv_at hl 4 rfl) ?_
      refine lv_iconst (v := 3) hx hb dL_law_316 (by decide) ?_
      refine lv_iadd hx hb dL_law_317 ?_
      obtain ⟨c318, hf⟩ := ck_t hf
      refine va_sld hx hb hXs hbl hbA hS (inb_in c318) dL_law_318 ?_
      refine lv_aload_n hx hb dL_law_319 rfl (lv_at hl 3 rfl) ?_
      obtain ⟨q320, h320, hf⟩ := bd_t hf
      refine cl_i (vx_runSW (As := [.ref (A 0), .int (xs (x4 + 1).toNatClampNeg), .int (xs (x4 + 2).toNatClampNeg), .int (xs (x4 + 3).toNatClampNeg), .ref (A 91)]) (rest := []) S (mL_house l hfl D cI cZ cJ (aLL_LW_0_1_2_3_4_5_6_8 A) cs cw ct cu cl cb cp co (xs (x4 + 1).toNatClampNeg) (xs (x4 + 2).toNatClampNeg) (xs (x4 + 3).toNatClampNeg) H.size q320 h320) (vx_cwSW 5 hts gL_law_L_house rfl rfl rfl (by decide +kernel) ⟨Nat.le_of_ble_eq_true rfl, Nat.le_of_ble_eq_true rfl⟩) (xP_S (cutLL_LW_0_1_2_3_4_5_6_8 _ _ _ _ _ _ _ _ _ _ _ _ _ st0 st0 st0 st0 st0 st0 st0 (fun _ => 0)) hP hD hS hA hK hG hX hZ) rfl rfl hl.1 rfl (lv_room (Nat.le_of_ble_eq_true rfl)) dL_law_320 ⟨by show _ ≤ 1131; omega, by show _ ≤ 22178; omega⟩) (cutLL_LW_0_1_2_3_4_5_6_8 _ _ _ _ _ _ _ _ _ _ _ _ _ _ _ _ _ _ _ _ _) hP hD hS hA (fun H locs hP hD hS => ?_)
      refine lv_istore (lv' := [(5, .int q320.1), (0, .ref b), (1, .ref (A 0)), (2, .ref (A 53)), (3, .ref (A 91)), (4, .int x4)]) hx hb dL_law_323 hl (by decide) rfl (fun ls hl => ?_)
      refine lv_aload_n hx hb dL_law_325 rfl (lv_at hl 3 rfl) ?_
      refine lv_aload_n hx hb dL_law_326 rfl (lv_at hl 1 rfl) ?_
      refine lv_iload hx hb dL_law_327 (lv_at hl 5 rfl) ?_
      refine lv_iconst (v := 1) hx hb dL_law_329 (by decide) ?_
      refine lv_iadd hx hb dL_law_330 ?_
      obtain ⟨c331, hf⟩ := ck_t hf
      refine va_sld hx hb hXs hbl hbA hS (inb_in c331) dL_law_331 ?_
      refine lv_aload_n hx hb dL_law_332 rfl (lv_at hl 1 rfl) ?_
      refine lv_iload hx hb dL_law_333 (lv_at hl 5 rfl) ?_
      refine lv_iconst (v := 2) hx hb dL_law_335 (by decide) ?_
      refine lv_iadd hx hb dL_law_336 ?_
      obtain ⟨c337, hf⟩ := ck_t hf
      refine va_sld hx hb hXs hbl hbA hS (inb_in c337) dL_law_337 ?_
      refine lv_aload_n hx hb dL_law_338 rfl (lv_at hl 1 rfl) ?_
      refine lv_iload hx hb dL_law_339 (lv_at hl 5 rfl) ?_
      refine lv_iconst (v := 3) hx hb dL_law_341 (by decide) ?_
      refine lv_iadd hx hb dL_law_342 ?_
      obtain ⟨c343, hf⟩ := ck_t hf
      refine va_sld hx hb hXs hbl hbA hS (inb_in c343) dL_law_343 ?_
      obtain ⟨q344, h344, hf⟩ := bd_t hf
      refine cl_i (va_runV (As := [.int (xs (x4 + 1).toNatClampNeg), .int (xs (x4 + 2).toNatClampNeg), .int (xs (x4 + 3).toNatClampNeg)]) (rest := []) S (mX6_house l D cI cZ (aLL_X6_7 A) mm (xs (x4 + 1).toNatClampNeg) (xs (x4 + 2).toNatClampNeg) (xs (x4 + 3).toNatClampNeg) H.size q344 h344) (cwV 3 hts gL_law_X6_house rfl rfl rfl (by decide +kernel) ⟨Nat.le_of_ble_eq_true rfl, Nat.le_of_ble_eq_true rfl⟩) (mP_V (ci := 6) (cutLL_X6_7 _ _ _ _ _ _ _ _ _ _ _ _ _ st0) hP hD (hK.sub [0, 1] rfl) hG rfl (gX6_0 _ _ _ _)) rfl rfl hl.1 rfl (lv_room (Nat.le_of_ble_eq_true rfl)) dL_law_344 ⟨by show _ ≤ 1131; omega, by show _ ≤ 22178; omega⟩) (cutLL_X6_7 _ _ _ _ _ _ _ _ _ _ _ _ _ _) hP hD hS hA (fun H locs hP hD hS => ?_)
      refine lv_istore (lv' := [(6, .int q344.1), (5, .int q320.1), (0, .ref b), (1, .ref (A 0)), (2, .ref (A 53)), (3, .ref (A 91)), (4, .int x4)]) hx hb dL_law_347 hl (by decide) rfl (fun ls hl => ?_)
      refine lv_aload_n hx hb dL_law_349 rfl (lv_at hl 4 rfl) ?_
      obtain ⟨q350, h350, hf⟩ := bd_t hf
      refine cl_i (va_runV (As := []) (rest := []) S (mX6_thrown l D cI cZ (aLL_X6_7 A) (q344.2) H.size q350 h350) (cwV 0 hts gL_law_X6_thrown rfl rfl rfl (by decide +kernel) ⟨Nat.le_of_ble_eq_true rfl, Nat.le_of_ble_eq_true rfl⟩) (mP_V (ci := 6) (cutLL_X6_7 _ _ _ _ _ _ _ _ _ _ _ _ _ st0) hP hD (hK.sub [0, 1] rfl) hG rfl (gX6_0 _ _ _ _)) rfl rfl hl.1 rfl (lv_room (Nat.le_of_ble_eq_true rfl)) dL_law_350 ⟨by show _ ≤ 1131; omega, by show _ ≤ 22178; omega⟩) (cutLL_X6_7 _ _ _ _ _ _ _ _ _ _ _ _ _ _) hP hD hS hA (fun H locs hP hD hS => ?_)
      refine lv_iload hx hb dL_law_353 (lv_at hl 1 rfl) ?_
      refine lv_icmp_eq (tgt := 360) hx hb dL_law_355 (by decide) (fun c355 => ?_) (fun c355 => ?_)
      · have hf := if_t c355 hf
        refine lv_iload hx hb dL_law_360 (lv_at hl 1 rfl) ?_
        refine lv_if_ne (tgt := 377) hx hb dL_law_362 (by decide) (fun c362 => ?_) (fun c362 => ?_)
        · have hf := if_f c362 hf
          refine lv_goto (tgt := 1388) hx hb dL_law_377 (by decide) ?_
          refine lv_iinc (v := x4 + 6) (lv' := [(4, .int (x4 + 6)), (6, .int q344.1), (5, .int q320.1), (0, .ref b), (1, .ref (A 0)), (2, .ref (A 53)), (3, .ref (A 91))]) hx hb dL_law_1388 hl (k := 6) rfl rfl (by decide) rfl (fun ls hl => ?_)
          refine lv_goto (tgt := 23) hx hb dL_law_1391 (by decide) ?_
          refine W.widen (k := c0 + (j + 1)) (n := s0 + 6 * (j + 1)) (by omega) (by omega) ?_
          exact hk23 _ hf (j + 1) (by show x4 + 6 = _; rw [ex4]; exact law_x4 j) hj H locs hP hD hS ls (lv_sub hl [3, 4, 5, 6, 0] rfl)
        · have hf := if_t c362 hf
          refine lv_aload_n hx hb dL_law_365 rfl (lv_at hl 5 rfl) ?_
          refine lv_iconst (v := 0) hx hb dL_law_366 (by decide) ?_
          refine va_lald hx hb hK hP 91 2 (gLL_91 _ _ _ _ _ _ _ _ _ _ _ _ _) rfl (inb_in (by decide)) dL_law_367 ?_
          refine lv_iload hx hb dL_law_368 (lv_at hl 0 rfl) ?_
          refine lv_i2l hx hb dL_law_370 rfl ?_
          refine W.lcmp hx hb dL_law_371 ?_
          refine lv_if_eq (tgt := 377) hx hb dL_law_372 (by decide) (fun c372 => ?_) (fun c372 => ?_)
          · have hf := if_t c372 hf
            refine lv_goto (tgt := 1388) hx hb dL_law_377 (by decide) ?_
            refine lv_iinc (v := x4 + 6) (lv' := [(4, .int (x4 + 6)), (6, .int q344.1), (5, .int q320.1), (0, .ref b), (1, .ref (A 0)), (2, .ref (A 53)), (3, .ref (A 91))]) hx hb dL_law_1388 hl (k := 6) rfl rfl (by decide) rfl (fun ls hl => ?_)
            refine lv_goto (tgt := 23) hx hb dL_law_1391 (by decide) ?_
            refine W.widen (k := c0 + (j + 1)) (n := s0 + 6 * (j + 1)) (by omega) (by omega) ?_
            exact hk23 _ hf (j + 1) (by show x4 + 6 = _; rw [ex4]; exact law_x4 j) hj H locs hP hD hS ls (lv_sub hl [3, 4, 5, 6, 0] rfl)
          · have hf := if_f c372 hf
            refine lv_iconst (v := 0) hx hb dL_law_375 (by decide) ?_
            exact absurd (Option.some.inj hf) (by decide)
      · have hf := if_f c355 hf
        refine lv_iconst (v := 0) hx hb dL_law_358 (by decide) ?_
        exact absurd (Option.some.inj hf) (by decide)
    have hf := if_f c40_2 hf
    by_cases c40_3 : ((xs x4.toNatClampNeg) &&& 31) = 3
    · have hf := if_t c40_3 hf
      refine lv_tableIn (off := 340) (tgt := 380) hx hb dL_law_40 (by rw [c40_3]; decide) (by rw [c40_3]; decide) (by rw [c40_3]; decide) (by decide) ?_
      refine lv_aload_n hx hb dL_law_380 rfl (lv_at hl 1 rfl) ?_
      refine lv_aload_n hx hb dL_law_381 rfl (lv_at hl 0 rfl) ?_
      refine lv_iload hx hb dL_law_382 (lv_at hl 4 rfl) ?_
      refine lv_iconst (v := 1) hx hb dL_law_384 (by decide) ?_
      refine lv_iadd hx hb dL_law_385 ?_
      obtain ⟨c386, hf⟩ := ck_t hf
      refine va_sld hx hb hXs hbl hbA hS (inb_in c386) dL_law_386 ?_
      refine lv_aload_n hx hb dL_law_387 rfl (lv_at hl 0 rfl) ?_
      refine lv_iload hx hb dL_law_388 (lv_at hl 4 rfl) ?_
      refine lv_iconst (v := 2) hx hb dL_law_390 (by decide) ?_
      refine lv_iadd hx hb dL_law_391 ?_
      obtain ⟨c392, hf⟩ := ck_t hf
      refine va_sld hx hb hXs hbl hbA hS (inb_in c392) dL_law_392 ?_
      refine lv_aload_n hx hb dL_law_393 rfl (lv_at hl 3 rfl) ?_
      obtain ⟨q394, h394, hf⟩ := bd_t hf
      refine cl_i (vx_runSW (As := [.ref (A 0), .int (xs (x4 + 1).toNatClampNeg), .int (xs (x4 + 2).toNatClampNeg), .ref (A 91)]) (rest := []) S (mL_rank l hfl D cI cZ cJ (aLL_LW_0_1_2_3_4_5_6_8 A) cs cw ct cu cl cb cp co (xs (x4 + 1).toNatClampNeg) (xs (x4 + 2).toNatClampNeg) H.size q394 h394) (vx_cwSW 4 hts gL_law_L_rank rfl rfl rfl (by decide +kernel) ⟨Nat.le_of_ble_eq_true rfl, Nat.le_of_ble_eq_true rfl⟩) (xP_S (cutLL_LW_0_1_2_3_4_5_6_8 _ _ _ _ _ _ _ _ _ _ _ _ _ st0 st0 st0 st0 st0 st0 st0 (fun _ => 0)) hP hD hS hA hK hG hX hZ) rfl rfl hl.1 rfl (lv_room (Nat.le_of_ble_eq_true rfl)) dL_law_394 ⟨by show _ ≤ 1131; omega, by show _ ≤ 22178; omega⟩) (cutLL_LW_0_1_2_3_4_5_6_8 _ _ _ _ _ _ _ _ _ _ _ _ _ _ _ _ _ _ _ _ _) hP hD hS hA (fun H locs hP hD hS => ?_)
      refine lv_istore (lv' := [(5, .int q394.1), (0, .ref b), (1, .ref (A 0)), (2, .ref (A 53)), (3, .ref (A 91)), (4, .int x4)]) hx hb dL_law_397 hl (by decide) rfl (fun ls hl => ?_)
      refine lv_aload_n hx hb dL_law_399 rfl (lv_at hl 3 rfl) ?_
      refine lv_aload_n hx hb dL_law_400 rfl (lv_at hl 1 rfl) ?_
      refine lv_iload hx hb dL_law_401 (lv_at hl 5 rfl) ?_
      refine lv_iconst (v := 1) hx hb dL_law_403 (by decide) ?_
      refine lv_iadd hx hb dL_law_404 ?_
      obtain ⟨c405, hf⟩ := ck_t hf
      refine va_sld hx hb hXs hbl hbA hS (inb_in c405) dL_law_405 ?_
      refine lv_aload_n hx hb dL_law_406 rfl (lv_at hl 1 rfl) ?_
      refine lv_iload hx hb dL_law_407 (lv_at hl 5 rfl) ?_
      refine lv_iconst (v := 2) hx hb dL_law_409 (by decide) ?_
      refine lv_iadd hx hb dL_law_410 ?_
      obtain ⟨c411, hf⟩ := ck_t hf
      refine va_sld hx hb hXs hbl hbA hS (inb_in c411) dL_law_411 ?_
      obtain ⟨q412, h412, hf⟩ := bd_t hf
      refine cl_i (va_runV (As := [.int (xs (x4 + 1).toNatClampNeg), .int (xs (x4 + 2).toNatClampNeg)]) (rest := []) S (mX6_rank l D cI cZ (aLL_X6_7 A) mm (xs (x4 + 1).toNatClampNeg) (xs (x4 + 2).toNatClampNeg) H.size q412 h412) (cwV 2 hts gL_law_X6_rank rfl rfl rfl (by decide +kernel) ⟨Nat.le_of_ble_eq_true rfl, Nat.le_of_ble_eq_true rfl⟩) (mP_V (ci := 6) (cutLL_X6_7 _ _ _ _ _ _ _ _ _ _ _ _ _ st0) hP hD (hK.sub [0, 1] rfl) hG rfl (gX6_0 _ _ _ _)) rfl rfl hl.1 rfl (lv_room (Nat.le_of_ble_eq_true rfl)) dL_law_412 ⟨by show _ ≤ 1131; omega, by show _ ≤ 22178; omega⟩) (cutLL_X6_7 _ _ _ _ _ _ _ _ _ _ _ _ _ _) hP hD hS hA (fun H locs hP hD hS => ?_)
      refine lv_istore (lv' := [(6, .int q412.1), (5, .int q394.1), (0, .ref b), (1, .ref (A 0)), (2, .ref (A 53)), (3, .ref (A 91)), (4, .int x4)]) hx hb dL_law_415 hl (by decide) rfl (fun ls hl => ?_)
      refine lv_aload_n hx hb dL_law_417 rfl (lv_at hl 4 rfl) ?_
      obtain ⟨q418, h418, hf⟩ := bd_t hf
      refine cl_i (va_runV (As := []) (rest := []) S (mX6_thrown l D cI cZ (aLL_X6_7 A) (q412.2) H.size q418 h418) (cwV 0 hts gL_law_X6_thrown rfl rfl rfl (by decide +kernel) ⟨Nat.le_of_ble_eq_true rfl, Nat.le_of_ble_eq_true rfl⟩) (mP_V (ci := 6) (cutLL_X6_7 _ _ _ _ _ _ _ _ _ _ _ _ _ st0) hP hD (hK.sub [0, 1] rfl) hG rfl (gX6_0 _ _ _ _)) rfl rfl hl.1 rfl (lv_room (Nat.le_of_ble_eq_true rfl)) dL_law_418 ⟨by show _ ≤ 1131; omega, by show _ ≤ 22178; omega⟩) (cutLL_X6_7 _ _ _ _ _ _ _ _ _ _ _ _ _ _) hP hD hS hA (fun H locs hP hD hS => ?_)
      refine lv_iload hx hb dL_law_421 (lv_at hl 1 rfl) ?_
      refine lv_icmp_eq (tgt := 428) hx hb dL_law_423 (by decide) (fun c423 => ?_) (fun c423 => ?_)
      · have hf := if_t c423 hf
        refine lv_iload hx hb dL_law_428 (lv_at hl 1 rfl) ?_
        refine lv_if_ne (tgt := 445) hx hb dL_law_430 (by decide) (fun c430 => ?_) (fun c430 => ?_)
        · have hf := if_f c430 hf
          refine lv_goto (tgt := 1388) hx hb dL_law_445 (by decide) ?_
          refine lv_iinc (v := x4 + 6) (lv' := [(4, .int (x4 + 6)), (6, .int q412.1), (5, .int q394.1), (0, .ref b), (1, .ref (A 0)), (2, .ref (A 53)), (3, .ref (A 91))]) hx hb dL_law_1388 hl (k := 6) rfl rfl (by decide) rfl (fun ls hl => ?_)
          refine lv_goto (tgt := 23) hx hb dL_law_1391 (by decide) ?_
          refine W.widen (k := c0 + (j + 1)) (n := s0 + 6 * (j + 1)) (by omega) (by omega) ?_
          exact hk23 _ hf (j + 1) (by show x4 + 6 = _; rw [ex4]; exact law_x4 j) hj H locs hP hD hS ls (lv_sub hl [3, 4, 5, 6, 0] rfl)
        · have hf := if_t c430 hf
          refine lv_aload_n hx hb dL_law_433 rfl (lv_at hl 5 rfl) ?_
          refine lv_iconst (v := 0) hx hb dL_law_434 (by decide) ?_
          refine va_lald hx hb hK hP 91 2 (gLL_91 _ _ _ _ _ _ _ _ _ _ _ _ _) rfl (inb_in (by decide)) dL_law_435 ?_
          refine lv_iload hx hb dL_law_436 (lv_at hl 0 rfl) ?_
          refine lv_i2l hx hb dL_law_438 rfl ?_
          refine W.lcmp hx hb dL_law_439 ?_
          refine lv_if_eq (tgt := 445) hx hb dL_law_440 (by decide) (fun c440 => ?_) (fun c440 => ?_)
          · have hf := if_t c440 hf
            refine lv_goto (tgt := 1388) hx hb dL_law_445 (by decide) ?_
            refine lv_iinc (v := x4 + 6) (lv' := [(4, .int (x4 + 6)), (6, .int q412.1), (5, .int q394.1), (0, .ref b), (1, .ref (A 0)), (2, .ref (A 53)), (3, .ref (A 91))]) hx hb dL_law_1388 hl (k := 6) rfl rfl (by decide) rfl (fun ls hl => ?_)
            refine lv_goto (tgt := 23) hx hb dL_law_1391 (by decide) ?_
            refine W.widen (k := c0 + (j + 1)) (n := s0 + 6 * (j + 1)) (by omega) (by omega) ?_
            exact hk23 _ hf (j + 1) (by show x4 + 6 = _; rw [ex4]; exact law_x4 j) hj H locs hP hD hS ls (lv_sub hl [3, 4, 5, 6, 0] rfl)
          · have hf := if_f c440 hf
            refine lv_iconst (v := 0) hx hb dL_law_443 (by decide) ?_
            exact absurd (Option.some.inj hf) (by decide)
      · have hf := if_f c423 hf
        refine lv_iconst (v := 0) hx hb dL_law_426 (by decide) ?_
        exact absurd (Option.some.inj hf) (by decide)
    have hf := if_f c40_3 hf
    by_cases c40_4 : ((xs x4.toNatClampNeg) &&& 31) = 4
    · have hf := if_t c40_4 hf
      refine lv_tableIn (off := 408) (tgt := 448) hx hb dL_law_40 (by rw [c40_4]; decide) (by rw [c40_4]; decide) (by rw [c40_4]; decide) (by decide) ?_
      refine lv_aload_n hx hb dL_law_448 rfl (lv_at hl 1 rfl) ?_
      refine lv_aload_n hx hb dL_law_449 rfl (lv_at hl 0 rfl) ?_
      refine lv_iload hx hb dL_law_450 (lv_at hl 4 rfl) ?_
      refine lv_iconst (v := 1) hx hb dL_law_452 (by decide) ?_
      refine lv_iadd hx hb dL_law_453 ?_
      obtain ⟨c454, hf⟩ := ck_t hf
      refine va_sld hx hb hXs hbl hbA hS (inb_in c454) dL_law_454 ?_
      refine lv_aload_n hx hb dL_law_455 rfl (lv_at hl 0 rfl) ?_
      refine lv_iload hx hb dL_law_456 (lv_at hl 4 rfl) ?_
      refine lv_iconst (v := 2) hx hb dL_law_458 (by decide) ?_
      refine lv_iadd hx hb dL_law_459 ?_
      obtain ⟨c460, hf⟩ := ck_t hf
      refine va_sld hx hb hXs hbl hbA hS (inb_in c460) dL_law_460 ?_
      refine lv_aload_n hx hb dL_law_461 rfl (lv_at hl 3 rfl) ?_
      obtain ⟨q462, h462, hf⟩ := bd_t hf
      refine cl_i (vx_runSW (As := [.ref (A 0), .int (xs (x4 + 1).toNatClampNeg), .int (xs (x4 + 2).toNatClampNeg), .ref (A 91)]) (rest := []) S (mL_shut l hfl D cI cZ cJ (aLL_LW_0_1_2_3_4_5_6_8 A) cs cw ct cu cl cb cp co (xs (x4 + 1).toNatClampNeg) (xs (x4 + 2).toNatClampNeg) H.size q462 h462) (vx_cwSW 4 hts gL_law_L_shut rfl rfl rfl (by decide +kernel) ⟨Nat.le_of_ble_eq_true rfl, Nat.le_of_ble_eq_true rfl⟩) (xP_S (cutLL_LW_0_1_2_3_4_5_6_8 _ _ _ _ _ _ _ _ _ _ _ _ _ st0 st0 st0 st0 st0 st0 st0 (fun _ => 0)) hP hD hS hA hK hG hX hZ) rfl rfl hl.1 rfl (lv_room (Nat.le_of_ble_eq_true rfl)) dL_law_462 ⟨by show _ ≤ 1131; omega, by show _ ≤ 22178; omega⟩) (cutLL_LW_0_1_2_3_4_5_6_8 _ _ _ _ _ _ _ _ _ _ _ _ _ _ _ _ _ _ _ _ _) hP hD hS hA (fun H locs hP hD hS => ?_)
      refine lv_istore (lv' := [(5, .int q462.1), (0, .ref b), (1, .ref (A 0)), (2, .ref (A 53)), (3, .ref (A 91)), (4, .int x4)]) hx hb dL_law_465 hl (by decide) rfl (fun ls hl => ?_)
      refine lv_aload_n hx hb dL_law_467 rfl (lv_at hl 3 rfl) ?_
      refine lv_aload_n hx hb dL_law_468 rfl (lv_at hl 1 rfl) ?_
      refine lv_iload hx hb dL_law_469 (lv_at hl 5 rfl) ?_
      refine lv_iconst (v := 1) hx hb dL_law_471 (by decide) ?_
      refine lv_iadd hx hb dL_law_472 ?_
      obtain ⟨c473, hf⟩ := ck_t hf
      refine va_sld hx hb hXs hbl hbA hS (inb_in c473) dL_law_473 ?_
      refine lv_aload_n hx hb dL_law_474 rfl (lv_at hl 1 rfl) ?_
      refine lv_iload hx hb dL_law_475 (lv_at hl 5 rfl) ?_
      refine lv_iconst (v := 2) hx hb dL_law_477 (by decide) ?_
      refine lv_iadd hx hb dL_law_478 ?_
      obtain ⟨c479, hf⟩ := ck_t hf
      refine va_sld hx hb hXs hbl hbA hS (inb_in c479) dL_law_479 ?_
      obtain ⟨q480, h480, hf⟩ := bd_t hf
      refine cl_i (va_runV (As := [.int (xs (x4 + 1).toNatClampNeg), .int (xs (x4 + 2).toNatClampNeg)]) (rest := []) S (mX6_shut l D cI cZ (aLL_X6_7 A) mm (xs (x4 + 1).toNatClampNeg) (xs (x4 + 2).toNatClampNeg) H.size q480 h480) (cwV 2 hts gL_law_X6_shut rfl rfl rfl (by decide +kernel) ⟨Nat.le_of_ble_eq_true rfl, Nat.le_of_ble_eq_true rfl⟩) (mP_V (ci := 6) (cutLL_X6_7 _ _ _ _ _ _ _ _ _ _ _ _ _ st0) hP hD (hK.sub [0, 1] rfl) hG rfl (gX6_0 _ _ _ _)) rfl rfl hl.1 rfl (lv_room (Nat.le_of_ble_eq_true rfl)) dL_law_480 ⟨by show _ ≤ 1131; omega, by show _ ≤ 22178; omega⟩) (cutLL_X6_7 _ _ _ _ _ _ _ _ _ _ _ _ _ _) hP hD hS hA (fun H locs hP hD hS => ?_)
      refine lv_istore (lv' := [(6, .int q480.1), (5, .int q462.1), (0, .ref b), (1, .ref (A 0)), (2, .ref (A 53)), (3, .ref (A 91)), (4, .int x4)]) hx hb dL_law_483 hl (by decide) rfl (fun ls hl => ?_)
      refine lv_aload_n hx hb dL_law_485 rfl (lv_at hl 4 rfl) ?_
      obtain ⟨q486, h486, hf⟩ := bd_t hf
      refine cl_i (va_runV (As := []) (rest := []) S (mX6_thrown l D cI cZ (aLL_X6_7 A) (q480.2) H.size q486 h486) (cwV 0 hts gL_law_X6_thrown rfl rfl rfl (by decide +kernel) ⟨Nat.le_of_ble_eq_true rfl, Nat.le_of_ble_eq_true rfl⟩) (mP_V (ci := 6) (cutLL_X6_7 _ _ _ _ _ _ _ _ _ _ _ _ _ st0) hP hD (hK.sub [0, 1] rfl) hG rfl (gX6_0 _ _ _ _)) rfl rfl hl.1 rfl (lv_room (Nat.le_of_ble_eq_true rfl)) dL_law_486 ⟨by show _ ≤ 1131; omega, by show _ ≤ 22178; omega⟩) (cutLL_X6_7 _ _ _ _ _ _ _ _ _ _ _ _ _ _) hP hD hS hA (fun H locs hP hD hS => ?_)
      refine lv_iload hx hb dL_law_489 (lv_at hl 1 rfl) ?_
      refine lv_icmp_eq (tgt := 496) hx hb dL_law_491 (by decide) (fun c491 => ?_) (fun c491 => ?_)
      · have hf := if_t c491 hf
        refine lv_iload hx hb dL_law_496 (lv_at hl 1 rfl) ?_
        refine lv_if_ne (tgt := 520) hx hb dL_law_498 (by decide) (fun c498 => ?_) (fun c498 => ?_)
        · have hf := if_f c498 hf
          refine lv_goto (tgt := 1388) hx hb dL_law_520 (by decide) ?_
          refine lv_iinc (v := x4 + 6) (lv' := [(4, .int (x4 + 6)), (6, .int q480.1), (5, .int q462.1), (0, .ref b), (1, .ref (A 0)), (2, .ref (A 53)), (3, .ref (A 91))]) hx hb dL_law_1388 hl (k := 6) rfl rfl (by decide) rfl (fun ls hl => ?_)
          refine lv_goto (tgt := 23) hx hb dL_law_1391 (by decide) ?_
          refine W.widen (k := c0 + (j + 1)) (n := s0 + 6 * (j + 1)) (by omega) (by omega) ?_
          exact hk23 _ hf (j + 1) (by show x4 + 6 = _; rw [ex4]; exact law_x4 j) hj H locs hP hD hS ls (lv_sub hl [3, 4, 5, 6, 0] rfl)
        · have hf := if_t c498 hf
          refine lv_aload_n hx hb dL_law_501 rfl (lv_at hl 5 rfl) ?_
          refine lv_iconst (v := 0) hx hb dL_law_502 (by decide) ?_
          refine va_lald hx hb hK hP 91 2 (gLL_91 _ _ _ _ _ _ _ _ _ _ _ _ _) rfl (inb_in (by decide)) dL_law_503 ?_
          refine lv_iload hx hb dL_law_504 (lv_at hl 0 rfl) ?_
          refine lv_if_eq (tgt := 513) hx hb dL_law_506 (by decide) (fun c506 => ?_) (fun c506 => ?_)
          · have hf := if_t c506 hf
            refine lv_lconst (v := 0) hx hb dL_law_513 (by decide) ?_
            refine W.lcmp hx hb dL_law_514 ?_
            refine lv_if_eq (tgt := 520) hx hb dL_law_515 (by decide) (fun c515 => ?_) (fun c515 => ?_)
            · have hf := if_t c515 hf
              refine lv_goto (tgt := 1388) hx hb dL_law_520 (by decide) ?_
              refine lv_iinc (v := x4 + 6) (lv' := [(4, .int (x4 + 6)), (6, .int q480.1), (5, .int q462.1), (0, .ref b), (1, .ref (A 0)), (2, .ref (A 53)), (3, .ref (A 91))]) hx hb dL_law_1388 hl (k := 6) rfl rfl (by decide) rfl (fun ls hl => ?_)
              refine lv_goto (tgt := 23) hx hb dL_law_1391 (by decide) ?_
              refine W.widen (k := c0 + (j + 1)) (n := s0 + 6 * (j + 1)) (by omega) (by omega) ?_
              exact hk23 _ hf (j + 1) (by show x4 + 6 = _; rw [ex4]; exact law_x4 j) hj H locs hP hD hS ls (lv_sub hl [3, 4, 5, 6, 0] rfl)
            · have hf := if_f c515 hf
              refine lv_iconst (v := 0) hx hb dL_law_518 (by decide) ?_
              exact absurd (Option.some.inj hf) (by decide)
          · have hf := if_f c506 hf
            refine lv_lconst (v := 1) hx hb dL_law_509 (by decide) ?_
            refine lv_goto (tgt := 514) hx hb dL_law_510 (by decide) ?_
            refine W.lcmp hx hb dL_law_514 ?_
            refine lv_if_eq (tgt := 520) hx hb dL_law_515 (by decide) (fun c515 => ?_) (fun c515 => ?_)
            · have hf := if_t c515 hf
              refine lv_goto (tgt := 1388) hx hb dL_law_520 (by decide) ?_
              refine lv_iinc (v := x4 + 6) (lv' := [(4, .int (x4 + 6)), (6, .int q480.1), (5, .int q462.1), (0, .ref b), (1, .ref (A 0)), (2, .ref (A 53)), (3, .ref (A 91))]) hx hb dL_law_1388 hl (k := 6) rfl rfl (by decide) rfl (fun ls hl => ?_)
              refine lv_goto (tgt := 23) hx hb dL_law_1391 (by decide) ?_
              refine W.widen (k := c0 + (j + 1)) (n := s0 + 6 * (j + 1)) (by omega) (by omega) ?_
              exact hk23 _ hf (j + 1) (by show x4 + 6 = _; rw [ex4]; exact law_x4 j) hj H locs hP hD hS ls (lv_sub hl [3, 4, 5, 6, 0] rfl)
            · have hf := if_f c515 hf
              refine lv_iconst (v := 0) hx hb dL_law_518 (by decide) ?_
              exact absurd (Option.some.inj hf) (by decide)
      · have hf := if_f c491 hf
        refine lv_iconst (v := 0) hx hb dL_law_494 (by decide) ?_
        exact absurd (Option.some.inj hf) (by decide)
    have hf := if_f c40_4 hf
    by_cases c40_5 : ((xs x4.toNatClampNeg) &&& 31) = 5
    · have hf := if_t c40_5 hf
      refine lv_tableIn (off := 483) (tgt := 523) hx hb dL_law_40 (by rw [c40_5]; decide) (by rw [c40_5]; decide) (by rw [c40_5]; decide) (by decide) ?_
      refine lv_aload_n hx hb dL_law_523 rfl (lv_at hl 1 rfl) ?_
      refine lv_aload_n hx hb dL_law_524 rfl (lv_at hl 0 rfl) ?_
      refine lv_iload hx hb dL_law_525 (lv_at hl 4 rfl) ?_
      refine lv_iconst (v := 1) hx hb dL_law_527 (by decide) ?_
      refine lv_iadd hx hb dL_law_528 ?_
      obtain ⟨c529, hf⟩ := ck_t hf
      refine va_sld hx hb hXs hbl hbA hS (inb_in c529) dL_law_529 ?_
      refine lv_aload_n hx hb dL_law_530 rfl (lv_at hl 0 rfl) ?_
      refine lv_iload hx hb dL_law_531 (lv_at hl 4 rfl) ?_
      refine lv_iconst (v := 2) hx hb dL_law_533 (by decide) ?_
      refine lv_iadd hx hb dL_law_534 ?_
      obtain ⟨c535, hf⟩ := ck_t hf
      refine va_sld hx hb hXs hbl hbA hS (inb_in c535) dL_law_535 ?_
      refine lv_aload_n hx hb dL_law_536 rfl (lv_at hl 0 rfl) ?_
      refine lv_iload hx hb dL_law_537 (lv_at hl 4 rfl) ?_
      refine lv_iconst (v := 3) hx hb dL_law_539 (by decide) ?_
      refine lv_iadd hx hb dL_law_540 ?_
      obtain ⟨c541, hf⟩ := ck_t hf
      refine va_sld hx hb hXs hbl hbA hS (inb_in c541) dL_law_541 ?_
      refine lv_aload_n hx hb dL_law_542 rfl (lv_at hl 3 rfl) ?_
      obtain ⟨q543, h543, hf⟩ := bd_t hf
      refine cl_i (vx_runSW (As := [.ref (A 0), .int (xs (x4 + 1).toNatClampNeg), .int (xs (x4 + 2).toNatClampNeg), .int (xs (x4 + 3).toNatClampNeg), .ref (A 91)]) (rest := []) S (mL_guard l hfl D cI cZ cJ (aLL_LW_0_1_2_3_4_5_6_8 A) cs cw ct cu cl cb cp co (xs (x4 + 1).toNatClampNeg) (xs (x4 + 2).toNatClampNeg) (xs (x4 + 3).toNatClampNeg) H.size q543 h543) (vx_cwSW 5 hts gL_law_L_guard rfl rfl rfl (by decide +kernel) ⟨Nat.le_of_ble_eq_true rfl, Nat.le_of_ble_eq_true rfl⟩) (xP_S (cutLL_LW_0_1_2_3_4_5_6_8 _ _ _ _ _ _ _ _ _ _ _ _ _ st0 st0 st0 st0 st0 st0 st0 (fun _ => 0)) hP hD hS hA hK hG hX hZ) rfl rfl hl.1 rfl (lv_room (Nat.le_of_ble_eq_true rfl)) dL_law_543 ⟨by show _ ≤ 1131; omega, by show _ ≤ 22178; omega⟩) (cutLL_LW_0_1_2_3_4_5_6_8 _ _ _ _ _ _ _ _ _ _ _ _ _ _ _ _ _ _ _ _ _) hP hD hS hA (fun H locs hP hD hS => ?_)
      refine lv_istore (lv' := [(5, .int q543.1), (0, .ref b), (1, .ref (A 0)), (2, .ref (A 53)), (3, .ref (A 91)), (4, .int x4)]) hx hb dL_law_546 hl (by decide) rfl (fun ls hl => ?_)
      refine lv_aload_n hx hb dL_law_548 rfl (lv_at hl 3 rfl) ?_
      refine lv_aload_n hx hb dL_law_549 rfl (lv_at hl 1 rfl) ?_
      refine lv_iload hx hb dL_law_550 (lv_at hl 5 rfl) ?_
      refine lv_iconst (v := 1) hx hb dL_law_552 (by decide) ?_
      refine lv_iadd hx hb dL_law_553 ?_
      obtain ⟨c554, hf⟩ := ck_t hf
      refine va_sld hx hb hXs hbl hbA hS (inb_in c554) dL_law_554 ?_
      refine lv_aload_n hx hb dL_law_555 rfl (lv_at hl 1 rfl) ?_
      refine lv_iload hx hb dL_law_556 (lv_at hl 5 rfl) ?_
      refine lv_iconst (v := 2) hx hb dL_law_558 (by decide) ?_
      refine lv_iadd hx hb dL_law_559 ?_
      obtain ⟨c560, hf⟩ := ck_t hf
      refine va_sld hx hb hXs hbl hbA hS (inb_in c560) dL_law_560 ?_
      refine lv_aload_n hx hb dL_law_561 rfl (lv_at hl 1 rfl) ?_
      refine lv_iload hx hb dL_law_562 (lv_at hl 5 rfl) ?_
      refine lv_iconst (v := 3) hx hb dL_law_564 (by decide) ?_
      refine lv_iadd hx hb dL_law_565 ?_
      obtain ⟨c566, hf⟩ := ck_t hf
      refine va_sld hx hb hXs hbl hbA hS (inb_in c566) dL_law_566 ?_
      obtain ⟨q567, h567, hf⟩ := bd_t hf
      refine cl_i (va_runV (As := [.int (xs (x4 + 1).toNatClampNeg), .int (xs (x4 + 2).toNatClampNeg), .int (xs (x4 + 3).toNatClampNeg)]) (rest := []) S (mX6_guard l D cI cZ (aLL_X6_7 A) mm (xs (x4 + 1).toNatClampNeg) (xs (x4 + 2).toNatClampNeg) (xs (x4 + 3).toNatClampNeg) H.size q567 h567) (cwV 3 hts gL_law_X6_guard rfl rfl rfl (by decide +kernel) ⟨Nat.le_of_ble_eq_true rfl, Nat.le_of_ble_eq_true rfl⟩) (mP_V (ci := 6) (cutLL_X6_7 _ _ _ _ _ _ _ _ _ _ _ _ _ st0) hP hD (hK.sub [0, 1] rfl) hG rfl (gX6_0 _ _ _ _)) rfl rfl hl.1 rfl (lv_room (Nat.le_of_ble_eq_true rfl)) dL_law_567 ⟨by show _ ≤ 1131; omega, by show _ ≤ 22178; omega⟩) (cutLL_X6_7 _ _ _ _ _ _ _ _ _ _ _ _ _ _) hP hD hS hA (fun H locs hP hD hS => ?_)
      refine lv_istore (lv' := [(6, .int q567.1), (5, .int q543.1), (0, .ref b), (1, .ref (A 0)), (2, .ref (A 53)), (3, .ref (A 91)), (4, .int x4)]) hx hb dL_law_570 hl (by decide) rfl (fun ls hl => ?_)
      refine lv_aload_n hx hb dL_law_572 rfl (lv_at hl 4 rfl) ?_
      obtain ⟨q573, h573, hf⟩ := bd_t hf
      refine cl_i (va_runV (As := []) (rest := []) S (mX6_thrown l D cI cZ (aLL_X6_7 A) (q567.2) H.size q573 h573) (cwV 0 hts gL_law_X6_thrown rfl rfl rfl (by decide +kernel) ⟨Nat.le_of_ble_eq_true rfl, Nat.le_of_ble_eq_true rfl⟩) (mP_V (ci := 6) (cutLL_X6_7 _ _ _ _ _ _ _ _ _ _ _ _ _ st0) hP hD (hK.sub [0, 1] rfl) hG rfl (gX6_0 _ _ _ _)) rfl rfl hl.1 rfl (lv_room (Nat.le_of_ble_eq_true rfl)) dL_law_573 ⟨by show _ ≤ 1131; omega, by show _ ≤ 22178; omega⟩) (cutLL_X6_7 _ _ _ _ _ _ _ _ _ _ _ _ _ _) hP hD hS hA (fun H locs hP hD hS => ?_)
      refine lv_iload hx hb dL_law_576 (lv_at hl 1 rfl) ?_
      refine lv_icmp_eq (tgt := 583) hx hb dL_law_578 (by decide) (fun c578 => ?_) (fun c578 => ?_)
      · have hf := if_t c578 hf
        refine lv_iload hx hb dL_law_583 (lv_at hl 1 rfl) ?_
        refine lv_if_ne (tgt := 600) hx hb dL_law_585 (by decide) (fun c585 => ?_) (fun c585 => ?_)
        · have hf := if_f c585 hf
          refine lv_goto (tgt := 1388) hx hb dL_law_600 (by decide) ?_
          refine lv_iinc (v := x4 + 6) (lv' := [(4, .int (x4 + 6)), (6, .int q567.1), (5, .int q543.1), (0, .ref b), (1, .ref (A 0)), (2, .ref (A 53)), (3, .ref (A 91))]) hx hb dL_law_1388 hl (k := 6) rfl rfl (by decide) rfl (fun ls hl => ?_)
          refine lv_goto (tgt := 23) hx hb dL_law_1391 (by decide) ?_
          refine W.widen (k := c0 + (j + 1)) (n := s0 + 6 * (j + 1)) (by omega) (by omega) ?_
          exact hk23 _ hf (j + 1) (by show x4 + 6 = _; rw [ex4]; exact law_x4 j) hj H locs hP hD hS ls (lv_sub hl [3, 4, 5, 6, 0] rfl)
        · have hf := if_t c585 hf
          refine lv_aload_n hx hb dL_law_588 rfl (lv_at hl 5 rfl) ?_
          refine lv_iconst (v := 0) hx hb dL_law_589 (by decide) ?_
          refine va_lald hx hb hK hP 91 2 (gLL_91 _ _ _ _ _ _ _ _ _ _ _ _ _) rfl (inb_in (by decide)) dL_law_590 ?_
          refine lv_iload hx hb dL_law_591 (lv_at hl 0 rfl) ?_
          refine lv_i2l hx hb dL_law_593 rfl ?_
          refine W.lcmp hx hb dL_law_594 ?_
          refine lv_if_eq (tgt := 600) hx hb dL_law_595 (by decide) (fun c595 => ?_) (fun c595 => ?_)
          · have hf := if_t c595 hf
            refine lv_goto (tgt := 1388) hx hb dL_law_600 (by decide) ?_
            refine lv_iinc (v := x4 + 6) (lv' := [(4, .int (x4 + 6)), (6, .int q567.1), (5, .int q543.1), (0, .ref b), (1, .ref (A 0)), (2, .ref (A 53)), (3, .ref (A 91))]) hx hb dL_law_1388 hl (k := 6) rfl rfl (by decide) rfl (fun ls hl => ?_)
            refine lv_goto (tgt := 23) hx hb dL_law_1391 (by decide) ?_
            refine W.widen (k := c0 + (j + 1)) (n := s0 + 6 * (j + 1)) (by omega) (by omega) ?_
            exact hk23 _ hf (j + 1) (by show x4 + 6 = _; rw [ex4]; exact law_x4 j) hj H locs hP hD hS ls (lv_sub hl [3, 4, 5, 6, 0] rfl)
          · have hf := if_f c595 hf
            refine lv_iconst (v := 0) hx hb dL_law_598 (by decide) ?_
            exact absurd (Option.some.inj hf) (by decide)
      · have hf := if_f c578 hf
        refine lv_iconst (v := 0) hx hb dL_law_581 (by decide) ?_
        exact absurd (Option.some.inj hf) (by decide)
    have hf := if_f c40_5 hf
    by_cases c40_6 : ((xs x4.toNatClampNeg) &&& 31) = 6
    · have hf := if_t c40_6 hf
      refine lv_tableIn (off := 563) (tgt := 603) hx hb dL_law_40 (by rw [c40_6]; decide) (by rw [c40_6]; decide) (by rw [c40_6]; decide) (by decide) ?_
      refine lv_aload_n hx hb dL_law_603 rfl (lv_at hl 1 rfl) ?_
      refine lv_aload_n hx hb dL_law_604 rfl (lv_at hl 0 rfl) ?_
      refine lv_iload hx hb dL_law_605 (lv_at hl 4 rfl) ?_
      refine lv_iconst (v := 1) hx hb dL_law_607 (by decide) ?_
      refine lv_iadd hx hb dL_law_608 ?_
      obtain ⟨c609, hf⟩ := ck_t hf
      refine va_sld hx hb hXs hbl hbA hS (inb_in c609) dL_law_609 ?_
      refine lv_aload_n hx hb dL_law_610 rfl (lv_at hl 0 rfl) ?_
      refine lv_iload hx hb dL_law_611 (lv_at hl 4 rfl) ?_
      refine lv_iconst (v := 2) hx hb dL_law_613 (by decide) ?_
      refine lv_iadd hx hb dL_law_614 ?_
      obtain ⟨c615, hf⟩ := ck_t hf
      refine va_sld hx hb hXs hbl hbA hS (inb_in c615) dL_law_615 ?_
      refine lv_aload_n hx hb dL_law_616 rfl (lv_at hl 0 rfl) ?_
      refine lv_iload hx hb dL_law_617 (lv_at hl 4 rfl) ?_
      refine lv_iconst (v := 3) hx hb dL_law_619 (by decide) ?_
      refine lv_iadd hx hb dL_law_620 ?_
      obtain ⟨c621, hf⟩ := ck_t hf
      refine va_sld hx hb hXs hbl hbA hS (inb_in c621) dL_law_621 ?_
      obtain ⟨q622, h622, hf⟩ := bd_t hf
      refine cl_i (vx_runSW (As := [.ref (A 0), .int (xs (x4 + 1).toNatClampNeg), .int (xs (x4 + 2).toNatClampNeg), .int (xs (x4 + 3).toNatClampNeg)]) (rest := []) S (mL_plain l hfl D cI cZ cJ (aLL_LW_0_1_2_3_4_5_6_8 A) cs cw ct cu cl cb cp co (xs (x4 + 1).toNatClampNeg) (xs (x4 + 2).toNatClampNeg) (xs (x4 + 3).toNatClampNeg) H.size q622 h622) (vx_cwSW 4 hts gL_law_L_plain rfl rfl rfl (by decide +kernel) ⟨Nat.le_of_ble_eq_true rfl, Nat.le_of_ble_eq_true rfl⟩) (xP_S (cutLL_LW_0_1_2_3_4_5_6_8 _ _ _ _ _ _ _ _ _ _ _ _ _ st0 st0 st0 st0 st0 st0 st0 (fun _ => 0)) hP hD hS hA hK hG hX hZ) rfl rfl hl.1 rfl (lv_room (Nat.le_of_ble_eq_true rfl)) dL_law_622 ⟨by show _ ≤ 1131; omega, by show _ ≤ 22178; omega⟩) (cutLL_LW_0_1_2_3_4_5_6_8 _ _ _ _ _ _ _ _ _ _ _ _ _ _ _ _ _ _ _ _ _) hP hD hS hA (fun H locs hP hD hS => ?_)
      refine lv_istore (lv' := [(5, .int q622.1), (0, .ref b), (1, .ref (A 0)), (2, .ref (A 53)), (3, .ref (A 91)), (4, .int x4)]) hx hb dL_law_625 hl (by decide) rfl (fun ls hl => ?_)
      refine lv_aload_n hx hb dL_law_627 rfl (lv_at hl 3 rfl) ?_
      refine lv_aload_n hx hb dL_law_628 rfl (lv_at hl 1 rfl) ?_
      refine lv_iload hx hb dL_law_629 (lv_at hl 5 rfl) ?_
      refine lv_iconst (v := 1) hx hb dL_law_631 (by decide) ?_
      refine lv_iadd hx hb dL_law_632 ?_
      obtain ⟨c633, hf⟩ := ck_t hf
      refine va_sld hx hb hXs hbl hbA hS (inb_in c633) dL_law_633 ?_
      refine lv_aload_n hx hb dL_law_634 rfl (lv_at hl 1 rfl) ?_
      refine lv_iload hx hb dL_law_635 (lv_at hl 5 rfl) ?_
      refine lv_iconst (v := 2) hx hb dL_law_637 (by decide) ?_
      refine lv_iadd hx hb dL_law_638 ?_
      obtain ⟨c639, hf⟩ := ck_t hf
      refine va_sld hx hb hXs hbl hbA hS (inb_in c639) dL_law_639 ?_
      refine lv_aload_n hx hb dL_law_640 rfl (lv_at hl 1 rfl) ?_
      refine lv_iload hx hb dL_law_641 (lv_at hl 5 rfl) ?_
      refine lv_iconst (v := 3) hx hb dL_law_643 (by decide) ?_
      refine lv_iadd hx hb dL_law_644 ?_
      obtain ⟨c645, hf⟩ := ck_t hf
      refine va_sld hx hb hXs hbl hbA hS (inb_in c645) dL_law_645 ?_
      obtain ⟨q646, h646, hf⟩ := bd_t hf
      refine cl_v (va_runV (As := [.int (xs (x4 + 1).toNatClampNeg), .int (xs (x4 + 2).toNatClampNeg), .int (xs (x4 + 3).toNatClampNeg)]) (rest := []) S (mX6_plain l D cI cZ (aLL_X6_7 A) mm (xs (x4 + 1).toNatClampNeg) (xs (x4 + 2).toNatClampNeg) (xs (x4 + 3).toNatClampNeg) H.size q646 h646) (cwV 3 hts gL_law_X6_plain rfl rfl rfl (by decide +kernel) ⟨Nat.le_of_ble_eq_true rfl, Nat.le_of_ble_eq_true rfl⟩) (mP_V (ci := 6) (cutLL_X6_7 _ _ _ _ _ _ _ _ _ _ _ _ _ st0) hP hD (hK.sub [0, 1] rfl) hG rfl (gX6_0 _ _ _ _)) rfl rfl hl.1 rfl (lv_room (Nat.le_of_ble_eq_true rfl)) dL_law_646 ⟨by show _ ≤ 1131; omega, by show _ ≤ 22178; omega⟩) (cutLL_X6_7 _ _ _ _ _ _ _ _ _ _ _ _ _ _) hP hD hS hA (fun H locs hP hD hS => ?_)
      refine lv_aload_n hx hb dL_law_649 rfl (lv_at hl 3 rfl) ?_
      obtain ⟨q650, h650, hf⟩ := bd_t hf
      refine cl_i (va_runV (As := []) (rest := []) S (mX6_thrown l D cI cZ (aLL_X6_7 A) q646 H.size q650 h650) (cwV 0 hts gL_law_X6_thrown rfl rfl rfl (by decide +kernel) ⟨Nat.le_of_ble_eq_true rfl, Nat.le_of_ble_eq_true rfl⟩) (mP_V (ci := 6) (cutLL_X6_7 _ _ _ _ _ _ _ _ _ _ _ _ _ st0) hP hD (hK.sub [0, 1] rfl) hG rfl (gX6_0 _ _ _ _)) rfl rfl hl.1 rfl (lv_room (Nat.le_of_ble_eq_true rfl)) dL_law_650 ⟨by show _ ≤ 1131; omega, by show _ ≤ 22178; omega⟩) (cutLL_X6_7 _ _ _ _ _ _ _ _ _ _ _ _ _ _) hP hD hS hA (fun H locs hP hD hS => ?_)
      refine lv_iload hx hb dL_law_653 (lv_at hl 0 rfl) ?_
      refine lv_icmp_eq (tgt := 660) hx hb dL_law_655 (by decide) (fun c655 => ?_) (fun c655 => ?_)
      · have hf := if_t c655 hf
        refine lv_goto (tgt := 1388) hx hb dL_law_660 (by decide) ?_
        refine lv_iinc (v := x4 + 6) (lv' := [(4, .int (x4 + 6)), (5, .int q622.1), (0, .ref b), (1, .ref (A 0)), (2, .ref (A 53)), (3, .ref (A 91))]) hx hb dL_law_1388 hl (k := 5) rfl rfl (by decide) rfl (fun ls hl => ?_)
        refine lv_goto (tgt := 23) hx hb dL_law_1391 (by decide) ?_
        refine W.widen (k := c0 + (j + 1)) (n := s0 + 6 * (j + 1)) (by omega) (by omega) ?_
        exact hk23 _ hf (j + 1) (by show x4 + 6 = _; rw [ex4]; exact law_x4 j) hj H locs hP hD hS ls (lv_sub hl [2, 3, 4, 5, 0] rfl)
      · have hf := if_f c655 hf
        refine lv_iconst (v := 0) hx hb dL_law_658 (by decide) ?_
        exact absurd (Option.some.inj hf) (by decide)
    have hf := if_f c40_6 hf
    by_cases c40_7 : ((xs x4.toNatClampNeg) &&& 31) = 7
    · have hf := if_t c40_7 hf
      refine lv_tableIn (off := 623) (tgt := 663) hx hb dL_law_40 (by rw [c40_7]; decide) (by rw [c40_7]; decide) (by rw [c40_7]; decide) (by decide) ?_
      refine lv_aload_n hx hb dL_law_663 rfl (lv_at hl 1 rfl) ?_
      refine lv_aload_n hx hb dL_law_664 rfl (lv_at hl 0 rfl) ?_
      refine lv_iload hx hb dL_law_665 (lv_at hl 4 rfl) ?_
      refine lv_iconst (v := 1) hx hb dL_law_667 (by decide) ?_
      refine lv_iadd hx hb dL_law_668 ?_
      obtain ⟨c669, hf⟩ := ck_t hf
      refine va_sld hx hb hXs hbl hbA hS (inb_in c669) dL_law_669 ?_
      refine lv_aload_n hx hb dL_law_670 rfl (lv_at hl 0 rfl) ?_
      refine lv_iload hx hb dL_law_671 (lv_at hl 4 rfl) ?_
      refine lv_iconst (v := 2) hx hb dL_law_673 (by decide) ?_
      refine lv_iadd hx hb dL_law_674 ?_
      obtain ⟨c675, hf⟩ := ck_t hf
      refine va_sld hx hb hXs hbl hbA hS (inb_in c675) dL_law_675 ?_
      refine lv_aload_n hx hb dL_law_676 rfl (lv_at hl 0 rfl) ?_
      refine lv_iload hx hb dL_law_677 (lv_at hl 4 rfl) ?_
      refine lv_iconst (v := 3) hx hb dL_law_679 (by decide) ?_
      refine lv_iadd hx hb dL_law_680 ?_
      obtain ⟨c681, hf⟩ := ck_t hf
      refine va_sld hx hb hXs hbl hbA hS (inb_in c681) dL_law_681 ?_
      refine lv_aload_n hx hb dL_law_682 rfl (lv_at hl 0 rfl) ?_
      refine lv_iload hx hb dL_law_683 (lv_at hl 4 rfl) ?_
      refine lv_iconst (v := 4) hx hb dL_law_685 (by decide) ?_
      refine lv_iadd hx hb dL_law_686 ?_
      obtain ⟨c687, hf⟩ := ck_t hf
      refine va_sld hx hb hXs hbl hbA hS (inb_in c687) dL_law_687 ?_
      obtain ⟨q688, h688, hf⟩ := bd_t hf
      refine cl_i (vx_runSW (As := [.ref (A 0), .int (xs (x4 + 1).toNatClampNeg), .int (xs (x4 + 2).toNatClampNeg), .int (xs (x4 + 3).toNatClampNeg), .int (xs (x4 + 4).toNatClampNeg)]) (rest := []) S (mL_trunk l hfl D cI cZ cJ (aLL_LW_0_1_2_3_4_5_6_8 A) cs cw ct cu cl cb cp co (xs (x4 + 1).toNatClampNeg) (xs (x4 + 2).toNatClampNeg) (xs (x4 + 3).toNatClampNeg) (xs (x4 + 4).toNatClampNeg) H.size q688 h688) (vx_cwSW 5 hts gL_law_L_trunk rfl rfl rfl (by decide +kernel) ⟨Nat.le_of_ble_eq_true rfl, Nat.le_of_ble_eq_true rfl⟩) (xP_S (cutLL_LW_0_1_2_3_4_5_6_8 _ _ _ _ _ _ _ _ _ _ _ _ _ st0 st0 st0 st0 st0 st0 st0 (fun _ => 0)) hP hD hS hA hK hG hX hZ) rfl rfl hl.1 rfl (lv_room (Nat.le_of_ble_eq_true rfl)) dL_law_688 ⟨by show _ ≤ 1131; omega, by show _ ≤ 22178; omega⟩) (cutLL_LW_0_1_2_3_4_5_6_8 _ _ _ _ _ _ _ _ _ _ _ _ _ _ _ _ _ _ _ _ _) hP hD hS hA (fun H locs hP hD hS => ?_)
      refine lv_istore (lv' := [(5, .int q688.1), (0, .ref b), (1, .ref (A 0)), (2, .ref (A 53)), (3, .ref (A 91)), (4, .int x4)]) hx hb dL_law_691 hl (by decide) rfl (fun ls hl => ?_)
      refine lv_aload_n hx hb dL_law_693 rfl (lv_at hl 3 rfl) ?_
      refine lv_aload_n hx hb dL_law_694 rfl (lv_at hl 1 rfl) ?_
      refine lv_iload hx hb dL_law_695 (lv_at hl 5 rfl) ?_
      refine lv_iconst (v := 1) hx hb dL_law_697 (by decide) ?_
      refine lv_iadd hx hb dL_law_698 ?_
      obtain ⟨c699, hf⟩ := ck_t hf
      refine va_sld hx hb hXs hbl hbA hS (inb_in c699) dL_law_699 ?_
      refine lv_aload_n hx hb dL_law_700 rfl (lv_at hl 1 rfl) ?_
      refine lv_iload hx hb dL_law_701 (lv_at hl 5 rfl) ?_
      refine lv_iconst (v := 2) hx hb dL_law_703 (by decide) ?_
      refine lv_iadd hx hb dL_law_704 ?_
      obtain ⟨c705, hf⟩ := ck_t hf
      refine va_sld hx hb hXs hbl hbA hS (inb_in c705) dL_law_705 ?_
      refine lv_aload_n hx hb dL_law_706 rfl (lv_at hl 1 rfl) ?_
      refine lv_iload hx hb dL_law_707 (lv_at hl 5 rfl) ?_
      refine lv_iconst (v := 3) hx hb dL_law_709 (by decide) ?_
      refine lv_iadd hx hb dL_law_710 ?_
      obtain ⟨c711, hf⟩ := ck_t hf
      refine va_sld hx hb hXs hbl hbA hS (inb_in c711) dL_law_711 ?_
      refine lv_aload_n hx hb dL_law_712 rfl (lv_at hl 1 rfl) ?_
      refine lv_iload hx hb dL_law_713 (lv_at hl 5 rfl) ?_
      refine lv_iconst (v := 4) hx hb dL_law_715 (by decide) ?_
      refine lv_iadd hx hb dL_law_716 ?_
      obtain ⟨c717, hf⟩ := ck_t hf
      refine va_sld hx hb hXs hbl hbA hS (inb_in c717) dL_law_717 ?_
      obtain ⟨q718, h718, hf⟩ := bd_t hf
      refine cl_v (va_runV (As := [.int (xs (x4 + 1).toNatClampNeg), .int (xs (x4 + 2).toNatClampNeg), .int (xs (x4 + 3).toNatClampNeg), .int (xs (x4 + 4).toNatClampNeg)]) (rest := []) S (mX6_trunk l D cI cZ (aLL_X6_7 A) mm (xs (x4 + 1).toNatClampNeg) (xs (x4 + 2).toNatClampNeg) (xs (x4 + 3).toNatClampNeg) (xs (x4 + 4).toNatClampNeg) H.size q718 h718) (cwV 4 hts gL_law_X6_trunk rfl rfl rfl (by decide +kernel) ⟨Nat.le_of_ble_eq_true rfl, Nat.le_of_ble_eq_true rfl⟩) (mP_V (ci := 6) (cutLL_X6_7 _ _ _ _ _ _ _ _ _ _ _ _ _ st0) hP hD (hK.sub [0, 1] rfl) hG rfl (gX6_0 _ _ _ _)) rfl rfl hl.1 rfl (lv_room (Nat.le_of_ble_eq_true rfl)) dL_law_718 ⟨by show _ ≤ 1131; omega, by show _ ≤ 22178; omega⟩) (cutLL_X6_7 _ _ _ _ _ _ _ _ _ _ _ _ _ _) hP hD hS hA (fun H locs hP hD hS => ?_)
      refine lv_aload_n hx hb dL_law_721 rfl (lv_at hl 3 rfl) ?_
      obtain ⟨q722, h722, hf⟩ := bd_t hf
      refine cl_i (va_runV (As := []) (rest := []) S (mX6_thrown l D cI cZ (aLL_X6_7 A) q718 H.size q722 h722) (cwV 0 hts gL_law_X6_thrown rfl rfl rfl (by decide +kernel) ⟨Nat.le_of_ble_eq_true rfl, Nat.le_of_ble_eq_true rfl⟩) (mP_V (ci := 6) (cutLL_X6_7 _ _ _ _ _ _ _ _ _ _ _ _ _ st0) hP hD (hK.sub [0, 1] rfl) hG rfl (gX6_0 _ _ _ _)) rfl rfl hl.1 rfl (lv_room (Nat.le_of_ble_eq_true rfl)) dL_law_722 ⟨by show _ ≤ 1131; omega, by show _ ≤ 22178; omega⟩) (cutLL_X6_7 _ _ _ _ _ _ _ _ _ _ _ _ _ _) hP hD hS hA (fun H locs hP hD hS => ?_)
      refine lv_iload hx hb dL_law_725 (lv_at hl 0 rfl) ?_
      refine lv_icmp_eq (tgt := 732) hx hb dL_law_727 (by decide) (fun c727 => ?_) (fun c727 => ?_)
      · have hf := if_t c727 hf
        refine lv_goto (tgt := 1388) hx hb dL_law_732 (by decide) ?_
        refine lv_iinc (v := x4 + 6) (lv' := [(4, .int (x4 + 6)), (5, .int q688.1), (0, .ref b), (1, .ref (A 0)), (2, .ref (A 53)), (3, .ref (A 91))]) hx hb dL_law_1388 hl (k := 5) rfl rfl (by decide) rfl (fun ls hl => ?_)
        refine lv_goto (tgt := 23) hx hb dL_law_1391 (by decide) ?_
        refine W.widen (k := c0 + (j + 1)) (n := s0 + 6 * (j + 1)) (by omega) (by omega) ?_
        exact hk23 _ hf (j + 1) (by show x4 + 6 = _; rw [ex4]; exact law_x4 j) hj H locs hP hD hS ls (lv_sub hl [2, 3, 4, 5, 0] rfl)
      · have hf := if_f c727 hf
        refine lv_iconst (v := 0) hx hb dL_law_730 (by decide) ?_
        exact absurd (Option.some.inj hf) (by decide)
    have hf := if_f c40_7 hf
    by_cases c40_8 : ((xs x4.toNatClampNeg) &&& 31) = 8
    · have hf := if_t c40_8 hf
      refine lv_tableIn (off := 695) (tgt := 735) hx hb dL_law_40 (by rw [c40_8]; decide) (by rw [c40_8]; decide) (by rw [c40_8]; decide) (by decide) ?_
      refine lv_aload_n hx hb dL_law_735 rfl (lv_at hl 1 rfl) ?_
      refine lv_aload_n hx hb dL_law_736 rfl (lv_at hl 0 rfl) ?_
      refine lv_iload hx hb dL_law_737 (lv_at hl 4 rfl) ?_
      refine lv_iconst (v := 1) hx hb dL_law_739 (by decide) ?_
      refine lv_iadd hx hb dL_law_740 ?_
      obtain ⟨c741, hf⟩ := ck_t hf
      refine va_sld hx hb hXs hbl hbA hS (inb_in c741) dL_law_741 ?_
      refine lv_aload_n hx hb dL_law_742 rfl (lv_at hl 3 rfl) ?_
      obtain ⟨q743, h743, hf⟩ := bd_t hf
      refine cl_i (vx_runSW (As := [.ref (A 0), .int (xs (x4 + 1).toNatClampNeg), .ref (A 91)]) (rest := []) S (mL_limit l hfl D cI cZ cJ (aLL_LW_0_1_2_3_4_5_6_8 A) cs cw ct cu cl cb cp co (xs (x4 + 1).toNatClampNeg) H.size q743 h743) (vx_cwSW 3 hts gL_law_L_limit rfl rfl rfl (by decide +kernel) ⟨Nat.le_of_ble_eq_true rfl, Nat.le_of_ble_eq_true rfl⟩) (xP_S (cutLL_LW_0_1_2_3_4_5_6_8 _ _ _ _ _ _ _ _ _ _ _ _ _ st0 st0 st0 st0 st0 st0 st0 (fun _ => 0)) hP hD hS hA hK hG hX hZ) rfl rfl hl.1 rfl (lv_room (Nat.le_of_ble_eq_true rfl)) dL_law_743 ⟨by show _ ≤ 1131; omega, by show _ ≤ 22178; omega⟩) (cutLL_LW_0_1_2_3_4_5_6_8 _ _ _ _ _ _ _ _ _ _ _ _ _ _ _ _ _ _ _ _ _) hP hD hS hA (fun H locs hP hD hS => ?_)
      refine lv_istore (lv' := [(5, .int q743.1), (0, .ref b), (1, .ref (A 0)), (2, .ref (A 53)), (3, .ref (A 91)), (4, .int x4)]) hx hb dL_law_746 hl (by decide) rfl (fun ls hl => ?_)
      refine lv_aload_n hx hb dL_law_748 rfl (lv_at hl 3 rfl) ?_
      refine lv_aload_n hx hb dL_law_749 rfl (lv_at hl 1 rfl) ?_
      refine lv_iload hx hb dL_law_750 (lv_at hl 5 rfl) ?_
      refine lv_iconst (v := 1) hx hb dL_law_752 (by decide) ?_
      refine lv_iadd hx hb dL_law_753 ?_
      obtain ⟨c754, hf⟩ := ck_t hf
      refine va_sld hx hb hXs hbl hbA hS (inb_in c754) dL_law_754 ?_
      obtain ⟨q755, h755, hf⟩ := bd_t hf
      refine cl_i (va_runV (As := [.int (xs (x4 + 1).toNatClampNeg)]) (rest := []) S (mX6_limit l D cI cZ (aLL_X6_7 A) mm (xs (x4 + 1).toNatClampNeg) H.size q755 h755) (cwV 1 hts gL_law_X6_limit rfl rfl rfl (by decide +kernel) ⟨Nat.le_of_ble_eq_true rfl, Nat.le_of_ble_eq_true rfl⟩) (mP_V (ci := 6) (cutLL_X6_7 _ _ _ _ _ _ _ _ _ _ _ _ _ st0) hP hD (hK.sub [0, 1] rfl) hG rfl (gX6_0 _ _ _ _)) rfl rfl hl.1 rfl (lv_room (Nat.le_of_ble_eq_true rfl)) dL_law_755 ⟨by show _ ≤ 1131; omega, by show _ ≤ 22178; omega⟩) (cutLL_X6_7 _ _ _ _ _ _ _ _ _ _ _ _ _ _) hP hD hS hA (fun H locs hP hD hS => ?_)
      refine lv_istore (lv' := [(6, .int q755.1), (5, .int q743.1), (0, .ref b), (1, .ref (A 0)), (2, .ref (A 53)), (3, .ref (A 91)), (4, .int x4)]) hx hb dL_law_758 hl (by decide) rfl (fun ls hl => ?_)
      refine lv_aload_n hx hb dL_law_760 rfl (lv_at hl 4 rfl) ?_
      obtain ⟨q761, h761, hf⟩ := bd_t hf
      refine cl_i (va_runV (As := []) (rest := []) S (mX6_thrown l D cI cZ (aLL_X6_7 A) (q755.2) H.size q761 h761) (cwV 0 hts gL_law_X6_thrown rfl rfl rfl (by decide +kernel) ⟨Nat.le_of_ble_eq_true rfl, Nat.le_of_ble_eq_true rfl⟩) (mP_V (ci := 6) (cutLL_X6_7 _ _ _ _ _ _ _ _ _ _ _ _ _ st0) hP hD (hK.sub [0, 1] rfl) hG rfl (gX6_0 _ _ _ _)) rfl rfl hl.1 rfl (lv_room (Nat.le_of_ble_eq_true rfl)) dL_law_761 ⟨by show _ ≤ 1131; omega, by show _ ≤ 22178; omega⟩) (cutLL_X6_7 _ _ _ _ _ _ _ _ _ _ _ _ _ _) hP hD hS hA (fun H locs hP hD hS => ?_)
      refine lv_iload hx hb dL_law_764 (lv_at hl 1 rfl) ?_
      refine lv_icmp_eq (tgt := 771) hx hb dL_law_766 (by decide) (fun c766 => ?_) (fun c766 => ?_)
      · have hf := if_t c766 hf
        refine lv_iload hx hb dL_law_771 (lv_at hl 1 rfl) ?_
        refine lv_if_ne (tgt := 788) hx hb dL_law_773 (by decide) (fun c773 => ?_) (fun c773 => ?_)
        · have hf := if_f c773 hf
          refine lv_goto (tgt := 1388) hx hb dL_law_788 (by decide) ?_
          refine lv_iinc (v := x4 + 6) (lv' := [(4, .int (x4 + 6)), (6, .int q755.1), (5, .int q743.1), (0, .ref b), (1, .ref (A 0)), (2, .ref (A 53)), (3, .ref (A 91))]) hx hb dL_law_1388 hl (k := 6) rfl rfl (by decide) rfl (fun ls hl => ?_)
          refine lv_goto (tgt := 23) hx hb dL_law_1391 (by decide) ?_
          refine W.widen (k := c0 + (j + 1)) (n := s0 + 6 * (j + 1)) (by omega) (by omega) ?_
          exact hk23 _ hf (j + 1) (by show x4 + 6 = _; rw [ex4]; exact law_x4 j) hj H locs hP hD hS ls (lv_sub hl [3, 4, 5, 6, 0] rfl)
        · have hf := if_t c773 hf
          refine lv_aload_n hx hb dL_law_776 rfl (lv_at hl 5 rfl) ?_
          refine lv_iconst (v := 0) hx hb dL_law_777 (by decide) ?_
          refine va_lald hx hb hK hP 91 2 (gLL_91 _ _ _ _ _ _ _ _ _ _ _ _ _) rfl (inb_in (by decide)) dL_law_778 ?_
          refine lv_iload hx hb dL_law_779 (lv_at hl 0 rfl) ?_
          refine lv_i2l hx hb dL_law_781 rfl ?_
          refine W.lcmp hx hb dL_law_782 ?_
          refine lv_if_eq (tgt := 788) hx hb dL_law_783 (by decide) (fun c783 => ?_) (fun c783 => ?_)
          · have hf := if_t c783 hf
            refine lv_goto (tgt := 1388) hx hb dL_law_788 (by decide) ?_
            refine lv_iinc (v := x4 + 6) (lv' := [(4, .int (x4 + 6)), (6, .int q755.1), (5, .int q743.1), (0, .ref b), (1, .ref (A 0)), (2, .ref (A 53)), (3, .ref (A 91))]) hx hb dL_law_1388 hl (k := 6) rfl rfl (by decide) rfl (fun ls hl => ?_)
            refine lv_goto (tgt := 23) hx hb dL_law_1391 (by decide) ?_
            refine W.widen (k := c0 + (j + 1)) (n := s0 + 6 * (j + 1)) (by omega) (by omega) ?_
            exact hk23 _ hf (j + 1) (by show x4 + 6 = _; rw [ex4]; exact law_x4 j) hj H locs hP hD hS ls (lv_sub hl [3, 4, 5, 6, 0] rfl)
          · have hf := if_f c783 hf
            refine lv_iconst (v := 0) hx hb dL_law_786 (by decide) ?_
            exact absurd (Option.some.inj hf) (by decide)
      · have hf := if_f c766 hf
        refine lv_iconst (v := 0) hx hb dL_law_769 (by decide) ?_
        exact absurd (Option.some.inj hf) (by decide)
    have hf := if_f c40_8 hf
    by_cases c40_9 : ((xs x4.toNatClampNeg) &&& 31) = 9
    · have hf := if_t c40_9 hf
      refine lv_tableIn (off := 751) (tgt := 791) hx hb dL_law_40 (by rw [c40_9]; decide) (by rw [c40_9]; decide) (by rw [c40_9]; decide) (by decide) ?_
      refine lv_aload_n hx hb dL_law_791 rfl (lv_at hl 1 rfl) ?_
      refine lv_aload_n hx hb dL_law_792 rfl (lv_at hl 0 rfl) ?_
      refine lv_iload hx hb dL_law_793 (lv_at hl 4 rfl) ?_
      refine lv_iconst (v := 1) hx hb dL_law_795 (by decide) ?_
      refine lv_iadd hx hb dL_law_796 ?_
      obtain ⟨c797, hf⟩ := ck_t hf
      refine va_sld hx hb hXs hbl hbA hS (inb_in c797) dL_law_797 ?_
      refine lv_aload_n hx hb dL_law_798 rfl (lv_at hl 3 rfl) ?_
      obtain ⟨q799, h799, hf⟩ := bd_t hf
      refine cl_i (vx_runSW (As := [.ref (A 0), .int (xs (x4 + 1).toNatClampNeg), .ref (A 91)]) (rest := []) S (mL_beat l hfl D cI cZ cJ (aLL_LW_0_1_2_3_4_5_6_8 A) cs cw ct cu cl cb cp co (xs (x4 + 1).toNatClampNeg) H.size q799 h799) (vx_cwSW 3 hts gL_law_L_beat rfl rfl rfl (by decide +kernel) ⟨Nat.le_of_ble_eq_true rfl, Nat.le_of_ble_eq_true rfl⟩) (xP_S (cutLL_LW_0_1_2_3_4_5_6_8 _ _ _ _ _ _ _ _ _ _ _ _ _ st0 st0 st0 st0 st0 st0 st0 (fun _ => 0)) hP hD hS hA hK hG hX hZ) rfl rfl hl.1 rfl (lv_room (Nat.le_of_ble_eq_true rfl)) dL_law_799 ⟨by show _ ≤ 1131; omega, by show _ ≤ 22178; omega⟩) (cutLL_LW_0_1_2_3_4_5_6_8 _ _ _ _ _ _ _ _ _ _ _ _ _ _ _ _ _ _ _ _ _) hP hD hS hA (fun H locs hP hD hS => ?_)
      refine lv_istore (lv' := [(5, .int q799.1), (0, .ref b), (1, .ref (A 0)), (2, .ref (A 53)), (3, .ref (A 91)), (4, .int x4)]) hx hb dL_law_802 hl (by decide) rfl (fun ls hl => ?_)
      refine lv_aload_n hx hb dL_law_804 rfl (lv_at hl 3 rfl) ?_
      refine lv_aload_n hx hb dL_law_805 rfl (lv_at hl 1 rfl) ?_
      refine lv_iload hx hb dL_law_806 (lv_at hl 5 rfl) ?_
      refine lv_iconst (v := 1) hx hb dL_law_808 (by decide) ?_
      refine lv_iadd hx hb dL_law_809 ?_
      obtain ⟨c810, hf⟩ := ck_t hf
      refine va_sld hx hb hXs hbl hbA hS (inb_in c810) dL_law_810 ?_
      obtain ⟨q811, h811, hf⟩ := bd_t hf
      refine cl_i (va_runV (As := [.int (xs (x4 + 1).toNatClampNeg)]) (rest := []) S (mX6_beat l D cI cZ (aLL_X6_7 A) mm (xs (x4 + 1).toNatClampNeg) H.size q811 h811) (cwV 1 hts gL_law_X6_beat rfl rfl rfl (by decide +kernel) ⟨Nat.le_of_ble_eq_true rfl, Nat.le_of_ble_eq_true rfl⟩) (mP_V (ci := 6) (cutLL_X6_7 _ _ _ _ _ _ _ _ _ _ _ _ _ st0) hP hD (hK.sub [0, 1] rfl) hG rfl (gX6_0 _ _ _ _)) rfl rfl hl.1 rfl (lv_room (Nat.le_of_ble_eq_true rfl)) dL_law_811 ⟨by show _ ≤ 1131; omega, by show _ ≤ 22178; omega⟩) (cutLL_X6_7 _ _ _ _ _ _ _ _ _ _ _ _ _ _) hP hD hS hA (fun H locs hP hD hS => ?_)
      refine lv_istore (lv' := [(6, .int q811.1), (5, .int q799.1), (0, .ref b), (1, .ref (A 0)), (2, .ref (A 53)), (3, .ref (A 91)), (4, .int x4)]) hx hb dL_law_814 hl (by decide) rfl (fun ls hl => ?_)
      refine lv_aload_n hx hb dL_law_816 rfl (lv_at hl 4 rfl) ?_
      obtain ⟨q817, h817, hf⟩ := bd_t hf
      refine cl_i (va_runV (As := []) (rest := []) S (mX6_thrown l D cI cZ (aLL_X6_7 A) (q811.2) H.size q817 h817) (cwV 0 hts gL_law_X6_thrown rfl rfl rfl (by decide +kernel) ⟨Nat.le_of_ble_eq_true rfl, Nat.le_of_ble_eq_true rfl⟩) (mP_V (ci := 6) (cutLL_X6_7 _ _ _ _ _ _ _ _ _ _ _ _ _ st0) hP hD (hK.sub [0, 1] rfl) hG rfl (gX6_0 _ _ _ _)) rfl rfl hl.1 rfl (lv_room (Nat.le_of_ble_eq_true rfl)) dL_law_817 ⟨by show _ ≤ 1131; omega, by show _ ≤ 22178; omega⟩) (cutLL_X6_7 _ _ _ _ _ _ _ _ _ _ _ _ _ _) hP hD hS hA (fun H locs hP hD hS => ?_)
      refine lv_iload hx hb dL_law_820 (lv_at hl 1 rfl) ?_
      refine lv_icmp_eq (tgt := 827) hx hb dL_law_822 (by decide) (fun c822 => ?_) (fun c822 => ?_)
      · have hf := if_t c822 hf
        refine lv_iload hx hb dL_law_827 (lv_at hl 1 rfl) ?_
        refine lv_if_ne (tgt := 844) hx hb dL_law_829 (by decide) (fun c829 => ?_) (fun c829 => ?_)
        · have hf := if_f c829 hf
          refine lv_goto (tgt := 1388) hx hb dL_law_844 (by decide) ?_
          refine lv_iinc (v := x4 + 6) (lv' := [(4, .int (x4 + 6)), (6, .int q811.1), (5, .int q799.1), (0, .ref b), (1, .ref (A 0)), (2, .ref (A 53)), (3, .ref (A 91))]) hx hb dL_law_1388 hl (k := 6) rfl rfl (by decide) rfl (fun ls hl => ?_)
          refine lv_goto (tgt := 23) hx hb dL_law_1391 (by decide) ?_
          refine W.widen (k := c0 + (j + 1)) (n := s0 + 6 * (j + 1)) (by omega) (by omega) ?_
          exact hk23 _ hf (j + 1) (by show x4 + 6 = _; rw [ex4]; exact law_x4 j) hj H locs hP hD hS ls (lv_sub hl [3, 4, 5, 6, 0] rfl)
        · have hf := if_t c829 hf
          refine lv_aload_n hx hb dL_law_832 rfl (lv_at hl 5 rfl) ?_
          refine lv_iconst (v := 0) hx hb dL_law_833 (by decide) ?_
          refine va_lald hx hb hK hP 91 2 (gLL_91 _ _ _ _ _ _ _ _ _ _ _ _ _) rfl (inb_in (by decide)) dL_law_834 ?_
          refine lv_iload hx hb dL_law_835 (lv_at hl 0 rfl) ?_
          refine lv_i2l hx hb dL_law_837 rfl ?_
          refine W.lcmp hx hb dL_law_838 ?_
          refine lv_if_eq (tgt := 844) hx hb dL_law_839 (by decide) (fun c839 => ?_) (fun c839 => ?_)
          · have hf := if_t c839 hf
            refine lv_goto (tgt := 1388) hx hb dL_law_844 (by decide) ?_
            refine lv_iinc (v := x4 + 6) (lv' := [(4, .int (x4 + 6)), (6, .int q811.1), (5, .int q799.1), (0, .ref b), (1, .ref (A 0)), (2, .ref (A 53)), (3, .ref (A 91))]) hx hb dL_law_1388 hl (k := 6) rfl rfl (by decide) rfl (fun ls hl => ?_)
            refine lv_goto (tgt := 23) hx hb dL_law_1391 (by decide) ?_
            refine W.widen (k := c0 + (j + 1)) (n := s0 + 6 * (j + 1)) (by omega) (by omega) ?_
            exact hk23 _ hf (j + 1) (by show x4 + 6 = _; rw [ex4]; exact law_x4 j) hj H locs hP hD hS ls (lv_sub hl [3, 4, 5, 6, 0] rfl)
          · have hf := if_f c839 hf
            refine lv_iconst (v := 0) hx hb dL_law_842 (by decide) ?_
            exact absurd (Option.some.inj hf) (by decide)
      · have hf := if_f c822 hf
        refine lv_iconst (v := 0) hx hb dL_law_825 (by decide) ?_
        exact absurd (Option.some.inj hf) (by decide)
    have hf := if_f c40_9 hf
    by_cases c40_10 : ((xs x4.toNatClampNeg) &&& 31) = 10
    · have hf := if_t c40_10 hf
      refine lv_tableIn (off := 807) (tgt := 847) hx hb dL_law_40 (by rw [c40_10]; decide) (by rw [c40_10]; decide) (by rw [c40_10]; decide) (by decide) ?_
      refine lv_aload_n hx hb dL_law_847 rfl (lv_at hl 1 rfl) ?_
      refine lv_aload_n hx hb dL_law_848 rfl (lv_at hl 0 rfl) ?_
      refine lv_iload hx hb dL_law_849 (lv_at hl 4 rfl) ?_
      refine lv_iconst (v := 1) hx hb dL_law_851 (by decide) ?_
      refine lv_iadd hx hb dL_law_852 ?_
      obtain ⟨c853, hf⟩ := ck_t hf
      refine va_sld hx hb hXs hbl hbA hS (inb_in c853) dL_law_853 ?_
      refine lv_aload_n hx hb dL_law_854 rfl (lv_at hl 0 rfl) ?_
      refine lv_iload hx hb dL_law_855 (lv_at hl 4 rfl) ?_
      refine lv_iconst (v := 2) hx hb dL_law_857 (by decide) ?_
      refine lv_iadd hx hb dL_law_858 ?_
      obtain ⟨c859, hf⟩ := ck_t hf
      refine va_sld hx hb hXs hbl hbA hS (inb_in c859) dL_law_859 ?_
      refine lv_aload_n hx hb dL_law_860 rfl (lv_at hl 0 rfl) ?_
      refine lv_iload hx hb dL_law_861 (lv_at hl 4 rfl) ?_
      refine lv_iconst (v := 3) hx hb dL_law_863 (by decide) ?_
      refine lv_iadd hx hb dL_law_864 ?_
      obtain ⟨c865, hf⟩ := ck_t hf
      refine va_sld hx hb hXs hbl hbA hS (inb_in c865) dL_law_865 ?_
      refine lv_aload_n hx hb dL_law_866 rfl (lv_at hl 0 rfl) ?_
      refine lv_iload hx hb dL_law_867 (lv_at hl 4 rfl) ?_
      refine lv_iconst (v := 4) hx hb dL_law_869 (by decide) ?_
      refine lv_iadd hx hb dL_law_870 ?_
      obtain ⟨c871, hf⟩ := ck_t hf
      refine va_sld hx hb hXs hbl hbA hS (inb_in c871) dL_law_871 ?_
      refine lv_aload_n hx hb dL_law_872 rfl (lv_at hl 3 rfl) ?_
      obtain ⟨q873, h873, hf⟩ := bd_t hf
      refine cl_i (vx_runSW (As := [.ref (A 0), .int (xs (x4 + 1).toNatClampNeg), .int (xs (x4 + 2).toNatClampNeg), .int (xs (x4 + 3).toNatClampNeg), .int (xs (x4 + 4).toNatClampNeg), .ref (A 91)]) (rest := []) S (mL_send l hfl D cI cZ cJ (aLL_LW_0_1_2_3_4_5_6_8 A) cs cw ct cu cl cb cp co (xs (x4 + 1).toNatClampNeg) (xs (x4 + 2).toNatClampNeg) (xs (x4 + 3).toNatClampNeg) (xs (x4 + 4).toNatClampNeg) H.size q873 h873) (vx_cwSW 6 hts gL_law_L_send rfl rfl rfl (by decide +kernel) ⟨Nat.le_of_ble_eq_true rfl, Nat.le_of_ble_eq_true rfl⟩) (xP_S (cutLL_LW_0_1_2_3_4_5_6_8 _ _ _ _ _ _ _ _ _ _ _ _ _ st0 st0 st0 st0 st0 st0 st0 (fun _ => 0)) hP hD hS hA hK hG hX hZ) rfl rfl hl.1 rfl (lv_room (Nat.le_of_ble_eq_true rfl)) dL_law_873 ⟨by show _ ≤ 1131; omega, by show _ ≤ 22178; omega⟩) (cutLL_LW_0_1_2_3_4_5_6_8 _ _ _ _ _ _ _ _ _ _ _ _ _ _ _ _ _ _ _ _ _) hP hD hS hA (fun H locs hP hD hS => ?_)
      refine lv_istore (lv' := [(5, .int q873.1), (0, .ref b), (1, .ref (A 0)), (2, .ref (A 53)), (3, .ref (A 91)), (4, .int x4)]) hx hb dL_law_876 hl (by decide) rfl (fun ls hl => ?_)
      refine lv_aload_n hx hb dL_law_878 rfl (lv_at hl 3 rfl) ?_
      refine lv_aload_n hx hb dL_law_879 rfl (lv_at hl 1 rfl) ?_
      refine lv_iload hx hb dL_law_880 (lv_at hl 5 rfl) ?_
      refine lv_iconst (v := 1) hx hb dL_law_882 (by decide) ?_
      refine lv_iadd hx hb dL_law_883 ?_
      obtain ⟨c884, hf⟩ := ck_t hf
      refine va_sld hx hb hXs hbl hbA hS (inb_in c884) dL_law_884 ?_
      refine lv_aload_n hx hb dL_law_885 rfl (lv_at hl 1 rfl) ?_
      refine lv_iload hx hb dL_law_886 (lv_at hl 5 rfl) ?_
      refine lv_iconst (v := 2) hx hb dL_law_888 (by decide) ?_
      refine lv_iadd hx hb dL_law_889 ?_
      obtain ⟨c890, hf⟩ := ck_t hf
      refine va_sld hx hb hXs hbl hbA hS (inb_in c890) dL_law_890 ?_
      refine lv_aload_n hx hb dL_law_891 rfl (lv_at hl 1 rfl) ?_
      refine lv_iload hx hb dL_law_892 (lv_at hl 5 rfl) ?_
      refine lv_iconst (v := 3) hx hb dL_law_894 (by decide) ?_
      refine lv_iadd hx hb dL_law_895 ?_
      obtain ⟨c896, hf⟩ := ck_t hf
      refine va_sld hx hb hXs hbl hbA hS (inb_in c896) dL_law_896 ?_
      refine lv_aload_n hx hb dL_law_897 rfl (lv_at hl 1 rfl) ?_
      refine lv_iload hx hb dL_law_898 (lv_at hl 5 rfl) ?_
      refine lv_iconst (v := 4) hx hb dL_law_900 (by decide) ?_
      refine lv_iadd hx hb dL_law_901 ?_
      obtain ⟨c902, hf⟩ := ck_t hf
      refine va_sld hx hb hXs hbl hbA hS (inb_in c902) dL_law_902 ?_
      obtain ⟨q903, h903, hf⟩ := bd_t hf
      refine cl_i (va_runV (As := [.int (xs (x4 + 1).toNatClampNeg), .int (xs (x4 + 2).toNatClampNeg), .int (xs (x4 + 3).toNatClampNeg), .int (xs (x4 + 4).toNatClampNeg)]) (rest := []) S (mX6_send l D cI cZ (aLL_X6_7 A) mm (xs (x4 + 1).toNatClampNeg) (xs (x4 + 2).toNatClampNeg) (xs (x4 + 3).toNatClampNeg) (xs (x4 + 4).toNatClampNeg) H.size q903 h903) (cwV 4 hts gL_law_X6_send rfl rfl rfl (by decide +kernel) ⟨Nat.le_of_ble_eq_true rfl, Nat.le_of_ble_eq_true rfl⟩) (mP_V (ci := 6) (cutLL_X6_7 _ _ _ _ _ _ _ _ _ _ _ _ _ st0) hP hD (hK.sub [0, 1] rfl) hG rfl (gX6_0 _ _ _ _)) rfl rfl hl.1 rfl (lv_room (Nat.le_of_ble_eq_true rfl)) dL_law_903 ⟨by show _ ≤ 1131; omega, by show _ ≤ 22178; omega⟩) (cutLL_X6_7 _ _ _ _ _ _ _ _ _ _ _ _ _ _) hP hD hS hA (fun H locs hP hD hS => ?_)
      refine lv_istore (lv' := [(6, .int q903.1), (5, .int q873.1), (0, .ref b), (1, .ref (A 0)), (2, .ref (A 53)), (3, .ref (A 91)), (4, .int x4)]) hx hb dL_law_906 hl (by decide) rfl (fun ls hl => ?_)
      refine lv_aload_n hx hb dL_law_908 rfl (lv_at hl 4 rfl) ?_
      obtain ⟨q909, h909, hf⟩ := bd_t hf
      refine cl_i (va_runV (As := []) (rest := []) S (mX6_thrown l D cI cZ (aLL_X6_7 A) (q903.2) H.size q909 h909) (cwV 0 hts gL_law_X6_thrown rfl rfl rfl (by decide +kernel) ⟨Nat.le_of_ble_eq_true rfl, Nat.le_of_ble_eq_true rfl⟩) (mP_V (ci := 6) (cutLL_X6_7 _ _ _ _ _ _ _ _ _ _ _ _ _ st0) hP hD (hK.sub [0, 1] rfl) hG rfl (gX6_0 _ _ _ _)) rfl rfl hl.1 rfl (lv_room (Nat.le_of_ble_eq_true rfl)) dL_law_909 ⟨by show _ ≤ 1131; omega, by show _ ≤ 22178; omega⟩) (cutLL_X6_7 _ _ _ _ _ _ _ _ _ _ _ _ _ _) hP hD hS hA (fun H locs hP hD hS => ?_)
      refine lv_iload hx hb dL_law_912 (lv_at hl 1 rfl) ?_
      refine lv_icmp_eq (tgt := 919) hx hb dL_law_914 (by decide) (fun c914 => ?_) (fun c914 => ?_)
      · have hf := if_t c914 hf
        refine lv_iload hx hb dL_law_919 (lv_at hl 1 rfl) ?_
        refine lv_if_ne (tgt := 936) hx hb dL_law_921 (by decide) (fun c921 => ?_) (fun c921 => ?_)
        · have hf := if_f c921 hf
          refine lv_goto (tgt := 1388) hx hb dL_law_936 (by decide) ?_
          refine lv_iinc (v := x4 + 6) (lv' := [(4, .int (x4 + 6)), (6, .int q903.1), (5, .int q873.1), (0, .ref b), (1, .ref (A 0)), (2, .ref (A 53)), (3, .ref (A 91))]) hx hb dL_law_1388 hl (k := 6) rfl rfl (by decide) rfl (fun ls hl => ?_)
          refine lv_goto (tgt := 23) hx hb dL_law_1391 (by decide) ?_
          refine W.widen (k := c0 + (j + 1)) (n := s0 + 6 * (j + 1)) (by omega) (by omega) ?_
          exact hk23 _ hf (j + 1) (by show x4 + 6 = _; rw [ex4]; exact law_x4 j) hj H locs hP hD hS ls (lv_sub hl [3, 4, 5, 6, 0] rfl)
        · have hf := if_t c921 hf
          refine lv_aload_n hx hb dL_law_924 rfl (lv_at hl 5 rfl) ?_
          refine lv_iconst (v := 0) hx hb dL_law_925 (by decide) ?_
          refine va_lald hx hb hK hP 91 2 (gLL_91 _ _ _ _ _ _ _ _ _ _ _ _ _) rfl (inb_in (by decide)) dL_law_926 ?_
          refine lv_iload hx hb dL_law_927 (lv_at hl 0 rfl) ?_
          refine lv_i2l hx hb dL_law_929 rfl ?_
          refine W.lcmp hx hb dL_law_930 ?_
          refine lv_if_eq (tgt := 936) hx hb dL_law_931 (by decide) (fun c931 => ?_) (fun c931 => ?_)
          · have hf := if_t c931 hf
            refine lv_goto (tgt := 1388) hx hb dL_law_936 (by decide) ?_
            refine lv_iinc (v := x4 + 6) (lv' := [(4, .int (x4 + 6)), (6, .int q903.1), (5, .int q873.1), (0, .ref b), (1, .ref (A 0)), (2, .ref (A 53)), (3, .ref (A 91))]) hx hb dL_law_1388 hl (k := 6) rfl rfl (by decide) rfl (fun ls hl => ?_)
            refine lv_goto (tgt := 23) hx hb dL_law_1391 (by decide) ?_
            refine W.widen (k := c0 + (j + 1)) (n := s0 + 6 * (j + 1)) (by omega) (by omega) ?_
            exact hk23 _ hf (j + 1) (by show x4 + 6 = _; rw [ex4]; exact law_x4 j) hj H locs hP hD hS ls (lv_sub hl [3, 4, 5, 6, 0] rfl)
          · have hf := if_f c931 hf
            refine lv_iconst (v := 0) hx hb dL_law_934 (by decide) ?_
            exact absurd (Option.some.inj hf) (by decide)
      · have hf := if_f c914 hf
        refine lv_iconst (v := 0) hx hb dL_law_917 (by decide) ?_
        exact absurd (Option.some.inj hf) (by decide)
    have hf := if_f c40_10 hf
    by_cases c40_11 : ((xs x4.toNatClampNeg) &&& 31) = 11
    · have hf := if_t c40_11 hf
      refine lv_tableIn (off := 899) (tgt := 939) hx hb dL_law_40 (by rw [c40_11]; decide) (by rw [c40_11]; decide) (by rw [c40_11]; decide) (by decide) ?_
      refine lv_aload_n hx hb dL_law_939 rfl (lv_at hl 1 rfl) ?_
      refine lv_aload_n hx hb dL_law_940 rfl (lv_at hl 0 rfl) ?_
      refine lv_iload hx hb dL_law_941 (lv_at hl 4 rfl) ?_
      refine lv_iconst (v := 1) hx hb dL_law_943 (by decide) ?_
      refine lv_iadd hx hb dL_law_944 ?_
      obtain ⟨c945, hf⟩ := ck_t hf
      refine va_sld hx hb hXs hbl hbA hS (inb_in c945) dL_law_945 ?_
      refine lv_aload_n hx hb dL_law_946 rfl (lv_at hl 0 rfl) ?_
      refine lv_iload hx hb dL_law_947 (lv_at hl 4 rfl) ?_
      refine lv_iconst (v := 2) hx hb dL_law_949 (by decide) ?_
      refine lv_iadd hx hb dL_law_950 ?_
      obtain ⟨c951, hf⟩ := ck_t hf
      refine va_sld hx hb hXs hbl hbA hS (inb_in c951) dL_law_951 ?_
      refine lv_aload_n hx hb dL_law_952 rfl (lv_at hl 3 rfl) ?_
      obtain ⟨q953, h953, hf⟩ := bd_t hf
      refine cl_i (vx_runSW (As := [.ref (A 0), .int (xs (x4 + 1).toNatClampNeg), .int (xs (x4 + 2).toNatClampNeg), .ref (A 91)]) (rest := []) S (mL_holds l hfl D cI cZ cJ (aLL_LW_0_1_2_3_4_5_6_8 A) cs cw ct cu cl cb cp co (xs (x4 + 1).toNatClampNeg) (xs (x4 + 2).toNatClampNeg) H.size q953 h953) (vx_cwSW 4 hts gL_law_L_holds rfl rfl rfl (by decide +kernel) ⟨Nat.le_of_ble_eq_true rfl, Nat.le_of_ble_eq_true rfl⟩) (xP_S (cutLL_LW_0_1_2_3_4_5_6_8 _ _ _ _ _ _ _ _ _ _ _ _ _ st0 st0 st0 st0 st0 st0 st0 (fun _ => 0)) hP hD hS hA hK hG hX hZ) rfl rfl hl.1 rfl (lv_room (Nat.le_of_ble_eq_true rfl)) dL_law_953 ⟨by show _ ≤ 1131; omega, by show _ ≤ 22178; omega⟩) (cutLL_LW_0_1_2_3_4_5_6_8 _ _ _ _ _ _ _ _ _ _ _ _ _ _ _ _ _ _ _ _ _) hP hD hS hA (fun H locs hP hD hS => ?_)
      refine lv_istore (lv' := [(5, .int q953.1), (0, .ref b), (1, .ref (A 0)), (2, .ref (A 53)), (3, .ref (A 91)), (4, .int x4)]) hx hb dL_law_956 hl (by decide) rfl (fun ls hl => ?_)
      refine lv_aload_n hx hb dL_law_958 rfl (lv_at hl 3 rfl) ?_
      refine lv_aload_n hx hb dL_law_959 rfl (lv_at hl 1 rfl) ?_
      refine lv_iload hx hb dL_law_960 (lv_at hl 5 rfl) ?_
      refine lv_iconst (v := 1) hx hb dL_law_962 (by decide) ?_
      refine lv_iadd hx hb dL_law_963 ?_
      obtain ⟨c964, hf⟩ := ck_t hf
      refine va_sld hx hb hXs hbl hbA hS (inb_in c964) dL_law_964 ?_
      refine lv_aload_n hx hb dL_law_965 rfl (lv_at hl 1 rfl) ?_
      refine lv_iload hx hb dL_law_966 (lv_at hl 5 rfl) ?_
      refine lv_iconst (v := 2) hx hb dL_law_968 (by decide) ?_
      refine lv_iadd hx hb dL_law_969 ?_
      obtain ⟨c970, hf⟩ := ck_t hf
      refine va_sld hx hb hXs hbl hbA hS (inb_in c970) dL_law_970 ?_
      obtain ⟨q971, h971, hf⟩ := bd_t hf
      refine cl_i (va_runV (As := [.int (xs (x4 + 1).toNatClampNeg), .int (xs (x4 + 2).toNatClampNeg)]) (rest := []) S (mX6_holds_ l D cI cZ (aLL_X6_7 A) mm (xs (x4 + 1).toNatClampNeg) (xs (x4 + 2).toNatClampNeg) H.size q971 h971) (cwV 2 hts gL_law_X6_holds_ rfl rfl rfl (by decide +kernel) ⟨Nat.le_of_ble_eq_true rfl, Nat.le_of_ble_eq_true rfl⟩) (mP_V (ci := 6) (cutLL_X6_7 _ _ _ _ _ _ _ _ _ _ _ _ _ st0) hP hD (hK.sub [0, 1] rfl) hG rfl (gX6_0 _ _ _ _)) rfl rfl hl.1 rfl (lv_room (Nat.le_of_ble_eq_true rfl)) dL_law_971 ⟨by show _ ≤ 1131; omega, by show _ ≤ 22178; omega⟩) (cutLL_X6_7 _ _ _ _ _ _ _ _ _ _ _ _ _ _) hP hD hS hA (fun H locs hP hD hS => ?_)
      refine lv_istore (lv' := [(6, .int q971.1), (5, .int q953.1), (0, .ref b), (1, .ref (A 0)), (2, .ref (A 53)), (3, .ref (A 91)), (4, .int x4)]) hx hb dL_law_974 hl (by decide) rfl (fun ls hl => ?_)
      refine lv_aload_n hx hb dL_law_976 rfl (lv_at hl 4 rfl) ?_
      obtain ⟨q977, h977, hf⟩ := bd_t hf
      refine cl_i (va_runV (As := []) (rest := []) S (mX6_thrown l D cI cZ (aLL_X6_7 A) (q971.2) H.size q977 h977) (cwV 0 hts gL_law_X6_thrown rfl rfl rfl (by decide +kernel) ⟨Nat.le_of_ble_eq_true rfl, Nat.le_of_ble_eq_true rfl⟩) (mP_V (ci := 6) (cutLL_X6_7 _ _ _ _ _ _ _ _ _ _ _ _ _ st0) hP hD (hK.sub [0, 1] rfl) hG rfl (gX6_0 _ _ _ _)) rfl rfl hl.1 rfl (lv_room (Nat.le_of_ble_eq_true rfl)) dL_law_977 ⟨by show _ ≤ 1131; omega, by show _ ≤ 22178; omega⟩) (cutLL_X6_7 _ _ _ _ _ _ _ _ _ _ _ _ _ _) hP hD hS hA (fun H locs hP hD hS => ?_)
      refine lv_iload hx hb dL_law_980 (lv_at hl 1 rfl) ?_
      refine lv_icmp_eq (tgt := 987) hx hb dL_law_982 (by decide) (fun c982 => ?_) (fun c982 => ?_)
      · have hf := if_t c982 hf
        refine lv_iload hx hb dL_law_987 (lv_at hl 1 rfl) ?_
        refine lv_if_ne (tgt := 1004) hx hb dL_law_989 (by decide) (fun c989 => ?_) (fun c989 => ?_)
        · have hf := if_f c989 hf
          refine lv_goto (tgt := 1388) hx hb dL_law_1004 (by decide) ?_
          refine lv_iinc (v := x4 + 6) (lv' := [(4, .int (x4 + 6)), (6, .int q971.1), (5, .int q953.1), (0, .ref b), (1, .ref (A 0)), (2, .ref (A 53)), (3, .ref (A 91))]) hx hb dL_law_1388 hl (k := 6) rfl rfl (by decide) rfl (fun ls hl => ?_)
          refine lv_goto (tgt := 23) hx hb dL_law_1391 (by decide) ?_
          refine W.widen (k := c0 + (j + 1)) (n := s0 + 6 * (j + 1)) (by omega) (by omega) ?_
          exact hk23 _ hf (j + 1) (by show x4 + 6 = _; rw [ex4]; exact law_x4 j) hj H locs hP hD hS ls (lv_sub hl [3, 4, 5, 6, 0] rfl)
        · have hf := if_t c989 hf
          refine lv_aload_n hx hb dL_law_992 rfl (lv_at hl 5 rfl) ?_
          refine lv_iconst (v := 0) hx hb dL_law_993 (by decide) ?_
          refine va_lald hx hb hK hP 91 2 (gLL_91 _ _ _ _ _ _ _ _ _ _ _ _ _) rfl (inb_in (by decide)) dL_law_994 ?_
          refine lv_iload hx hb dL_law_995 (lv_at hl 0 rfl) ?_
          refine lv_i2l hx hb dL_law_997 rfl ?_
          refine W.lcmp hx hb dL_law_998 ?_
          refine lv_if_eq (tgt := 1004) hx hb dL_law_999 (by decide) (fun c999 => ?_) (fun c999 => ?_)
          · have hf := if_t c999 hf
            refine lv_goto (tgt := 1388) hx hb dL_law_1004 (by decide) ?_
            refine lv_iinc (v := x4 + 6) (lv' := [(4, .int (x4 + 6)), (6, .int q971.1), (5, .int q953.1), (0, .ref b), (1, .ref (A 0)), (2, .ref (A 53)), (3, .ref (A 91))]) hx hb dL_law_1388 hl (k := 6) rfl rfl (by decide) rfl (fun ls hl => ?_)
            refine lv_goto (tgt := 23) hx hb dL_law_1391 (by decide) ?_
            refine W.widen (k := c0 + (j + 1)) (n := s0 + 6 * (j + 1)) (by omega) (by omega) ?_
            exact hk23 _ hf (j + 1) (by show x4 + 6 = _; rw [ex4]; exact law_x4 j) hj H locs hP hD hS ls (lv_sub hl [3, 4, 5, 6, 0] rfl)
          · have hf := if_f c999 hf
            refine lv_iconst (v := 0) hx hb dL_law_1002 (by decide) ?_
            exact absurd (Option.some.inj hf) (by decide)
      · have hf := if_f c982 hf
        refine lv_iconst (v := 0) hx hb dL_law_985 (by decide) ?_
        exact absurd (Option.some.inj hf) (by decide)
    have hf := if_f c40_11 hf
    by_cases c40_12 : ((xs x4.toNatClampNeg) &&& 31) = 12
    · have hf := if_t c40_12 hf
      refine lv_tableIn (off := 967) (tgt := 1007) hx hb dL_law_40 (by rw [c40_12]; decide) (by rw [c40_12]; decide) (by rw [c40_12]; decide) (by decide) ?_
      refine lv_aload_n hx hb dL_law_1007 rfl (lv_at hl 1 rfl) ?_
      refine lv_aload_n hx hb dL_law_1008 rfl (lv_at hl 0 rfl) ?_
      refine lv_iload hx hb dL_law_1009 (lv_at hl 4 rfl) ?_
      refine lv_iconst (v := 1) hx hb dL_law_1011 (by decide) ?_
      refine lv_iadd hx hb dL_law_1012 ?_
      obtain ⟨c1013, hf⟩ := ck_t hf
      refine va_sld hx hb hXs hbl hbA hS (inb_in c1013) dL_law_1013 ?_
      refine lv_aload_n hx hb dL_law_1014 rfl (lv_at hl 0 rfl) ?_
      refine lv_iload hx hb dL_law_1015 (lv_at hl 4 rfl) ?_
      refine lv_iconst (v := 2) hx hb dL_law_1017 (by decide) ?_
      refine lv_iadd hx hb dL_law_1018 ?_
      obtain ⟨c1019, hf⟩ := ck_t hf
      refine va_sld hx hb hXs hbl hbA hS (inb_in c1019) dL_law_1019 ?_
      refine lv_aload_n hx hb dL_law_1020 rfl (lv_at hl 0 rfl) ?_
      refine lv_iload hx hb dL_law_1021 (lv_at hl 4 rfl) ?_
      refine lv_iconst (v := 3) hx hb dL_law_1023 (by decide) ?_
      refine lv_iadd hx hb dL_law_1024 ?_
      obtain ⟨c1025, hf⟩ := ck_t hf
      refine va_sld hx hb hXs hbl hbA hS (inb_in c1025) dL_law_1025 ?_
      refine lv_aload_n hx hb dL_law_1026 rfl (lv_at hl 3 rfl) ?_
      obtain ⟨q1027, h1027, hf⟩ := bd_t hf
      refine cl_i (vx_runSW (As := [.ref (A 0), .int (xs (x4 + 1).toNatClampNeg), .int (xs (x4 + 2).toNatClampNeg), .int (xs (x4 + 3).toNatClampNeg), .ref (A 91)]) (rest := []) S (mL_port l hfl D cI cZ cJ (aLL_LW_0_1_2_3_4_5_6_8 A) cs cw ct cu cl cb cp co (xs (x4 + 1).toNatClampNeg) (xs (x4 + 2).toNatClampNeg) (xs (x4 + 3).toNatClampNeg) H.size q1027 h1027) (vx_cwSW 5 hts gL_law_L_port rfl rfl rfl (by decide +kernel) ⟨Nat.le_of_ble_eq_true rfl, Nat.le_of_ble_eq_true rfl⟩) (xP_S (cutLL_LW_0_1_2_3_4_5_6_8 _ _ _ _ _ _ _ _ _ _ _ _ _ st0 st0 st0 st0 st0 st0 st0 (fun _ => 0)) hP hD hS hA hK hG hX hZ) rfl rfl hl.1 rfl (lv_room (Nat.le_of_ble_eq_true rfl)) dL_law_1027 ⟨by show _ ≤ 1131; omega, by show _ ≤ 22178; omega⟩) (cutLL_LW_0_1_2_3_4_5_6_8 _ _ _ _ _ _ _ _ _ _ _ _ _ _ _ _ _ _ _ _ _) hP hD hS hA (fun H locs hP hD hS => ?_)
      refine lv_istore (lv' := [(5, .int q1027.1), (0, .ref b), (1, .ref (A 0)), (2, .ref (A 53)), (3, .ref (A 91)), (4, .int x4)]) hx hb dL_law_1030 hl (by decide) rfl (fun ls hl => ?_)
      refine lv_aload_n hx hb dL_law_1032 rfl (lv_at hl 3 rfl) ?_
      refine lv_aload_n hx hb dL_law_1033 rfl (lv_at hl 1 rfl) ?_
      refine lv_iload hx hb dL_law_1034 (lv_at hl 5 rfl) ?_
      refine lv_iconst (v := 1) hx hb dL_law_1036 (by decide) ?_
      refine lv_iadd hx hb dL_law_1037 ?_
      obtain ⟨c1038, hf⟩ := ck_t hf
      refine va_sld hx hb hXs hbl hbA hS (inb_in c1038) dL_law_1038 ?_
      refine lv_aload_n hx hb dL_law_1039 rfl (lv_at hl 1 rfl) ?_
      refine lv_iload hx hb dL_law_1040 (lv_at hl 5 rfl) ?_
      refine lv_iconst (v := 2) hx hb dL_law_1042 (by decide) ?_
      refine lv_iadd hx hb dL_law_1043 ?_
      obtain ⟨c1044, hf⟩ := ck_t hf
      refine va_sld hx hb hXs hbl hbA hS (inb_in c1044) dL_law_1044 ?_
      refine lv_aload_n hx hb dL_law_1045 rfl (lv_at hl 1 rfl) ?_
      refine lv_iload hx hb dL_law_1046 (lv_at hl 5 rfl) ?_
      refine lv_iconst (v := 3) hx hb dL_law_1048 (by decide) ?_
      refine lv_iadd hx hb dL_law_1049 ?_
      obtain ⟨c1050, hf⟩ := ck_t hf
      refine va_sld hx hb hXs hbl hbA hS (inb_in c1050) dL_law_1050 ?_
      obtain ⟨q1051, h1051, hf⟩ := bd_t hf
      refine cl_i (va_runV (As := [.int (xs (x4 + 1).toNatClampNeg), .int (xs (x4 + 2).toNatClampNeg), .int (xs (x4 + 3).toNatClampNeg)]) (rest := []) S (mX6_port l D cI cZ (aLL_X6_7 A) mm (xs (x4 + 1).toNatClampNeg) (xs (x4 + 2).toNatClampNeg) (xs (x4 + 3).toNatClampNeg) H.size q1051 h1051) (cwV 3 hts gL_law_X6_port rfl rfl rfl (by decide +kernel) ⟨Nat.le_of_ble_eq_true rfl, Nat.le_of_ble_eq_true rfl⟩) (mP_V (ci := 6) (cutLL_X6_7 _ _ _ _ _ _ _ _ _ _ _ _ _ st0) hP hD (hK.sub [0, 1] rfl) hG rfl (gX6_0 _ _ _ _)) rfl rfl hl.1 rfl (lv_room (Nat.le_of_ble_eq_true rfl)) dL_law_1051 ⟨by show _ ≤ 1131; omega, by show _ ≤ 22178; omega⟩) (cutLL_X6_7 _ _ _ _ _ _ _ _ _ _ _ _ _ _) hP hD hS hA (fun H locs hP hD hS => ?_)
      refine lv_istore (lv' := [(6, .int q1051.1), (5, .int q1027.1), (0, .ref b), (1, .ref (A 0)), (2, .ref (A 53)), (3, .ref (A 91)), (4, .int x4)]) hx hb dL_law_1054 hl (by decide) rfl (fun ls hl => ?_)
      refine lv_aload_n hx hb dL_law_1056 rfl (lv_at hl 4 rfl) ?_
      obtain ⟨q1057, h1057, hf⟩ := bd_t hf
      refine cl_i (va_runV (As := []) (rest := []) S (mX6_thrown l D cI cZ (aLL_X6_7 A) (q1051.2) H.size q1057 h1057) (cwV 0 hts gL_law_X6_thrown rfl rfl rfl (by decide +kernel) ⟨Nat.le_of_ble_eq_true rfl, Nat.le_of_ble_eq_true rfl⟩) (mP_V (ci := 6) (cutLL_X6_7 _ _ _ _ _ _ _ _ _ _ _ _ _ st0) hP hD (hK.sub [0, 1] rfl) hG rfl (gX6_0 _ _ _ _)) rfl rfl hl.1 rfl (lv_room (Nat.le_of_ble_eq_true rfl)) dL_law_1057 ⟨by show _ ≤ 1131; omega, by show _ ≤ 22178; omega⟩) (cutLL_X6_7 _ _ _ _ _ _ _ _ _ _ _ _ _ _) hP hD hS hA (fun H locs hP hD hS => ?_)
      refine lv_iload hx hb dL_law_1060 (lv_at hl 1 rfl) ?_
      refine lv_icmp_eq (tgt := 1067) hx hb dL_law_1062 (by decide) (fun c1062 => ?_) (fun c1062 => ?_)
      · have hf := if_t c1062 hf
        refine lv_iload hx hb dL_law_1067 (lv_at hl 1 rfl) ?_
        refine lv_if_ne (tgt := 1084) hx hb dL_law_1069 (by decide) (fun c1069 => ?_) (fun c1069 => ?_)
        · have hf := if_f c1069 hf
          refine lv_goto (tgt := 1388) hx hb dL_law_1084 (by decide) ?_
          refine lv_iinc (v := x4 + 6) (lv' := [(4, .int (x4 + 6)), (6, .int q1051.1), (5, .int q1027.1), (0, .ref b), (1, .ref (A 0)), (2, .ref (A 53)), (3, .ref (A 91))]) hx hb dL_law_1388 hl (k := 6) rfl rfl (by decide) rfl (fun ls hl => ?_)
          refine lv_goto (tgt := 23) hx hb dL_law_1391 (by decide) ?_
          refine W.widen (k := c0 + (j + 1)) (n := s0 + 6 * (j + 1)) (by omega) (by omega) ?_
          exact hk23 _ hf (j + 1) (by show x4 + 6 = _; rw [ex4]; exact law_x4 j) hj H locs hP hD hS ls (lv_sub hl [3, 4, 5, 6, 0] rfl)
        · have hf := if_t c1069 hf
          refine lv_aload_n hx hb dL_law_1072 rfl (lv_at hl 5 rfl) ?_
          refine lv_iconst (v := 0) hx hb dL_law_1073 (by decide) ?_
          refine va_lald hx hb hK hP 91 2 (gLL_91 _ _ _ _ _ _ _ _ _ _ _ _ _) rfl (inb_in (by decide)) dL_law_1074 ?_
          refine lv_iload hx hb dL_law_1075 (lv_at hl 0 rfl) ?_
          refine lv_i2l hx hb dL_law_1077 rfl ?_
          refine W.lcmp hx hb dL_law_1078 ?_
          refine lv_if_eq (tgt := 1084) hx hb dL_law_1079 (by decide) (fun c1079 => ?_) (fun c1079 => ?_)
          · have hf := if_t c1079 hf
            refine lv_goto (tgt := 1388) hx hb dL_law_1084 (by decide) ?_
            refine lv_iinc (v := x4 + 6) (lv' := [(4, .int (x4 + 6)), (6, .int q1051.1), (5, .int q1027.1), (0, .ref b), (1, .ref (A 0)), (2, .ref (A 53)), (3, .ref (A 91))]) hx hb dL_law_1388 hl (k := 6) rfl rfl (by decide) rfl (fun ls hl => ?_)
            refine lv_goto (tgt := 23) hx hb dL_law_1391 (by decide) ?_
            refine W.widen (k := c0 + (j + 1)) (n := s0 + 6 * (j + 1)) (by omega) (by omega) ?_
            exact hk23 _ hf (j + 1) (by show x4 + 6 = _; rw [ex4]; exact law_x4 j) hj H locs hP hD hS ls (lv_sub hl [3, 4, 5, 6, 0] rfl)
          · have hf := if_f c1079 hf
            refine lv_iconst (v := 0) hx hb dL_law_1082 (by decide) ?_
            exact absurd (Option.some.inj hf) (by decide)
      · have hf := if_f c1062 hf
        refine lv_iconst (v := 0) hx hb dL_law_1065 (by decide) ?_
        exact absurd (Option.some.inj hf) (by decide)
    have hf := if_f c40_12 hf
    by_cases c40_13 : ((xs x4.toNatClampNeg) &&& 31) = 13
    · have hf := if_t c40_13 hf
      refine lv_tableIn (off := 1047) (tgt := 1087) hx hb dL_law_40 (by rw [c40_13]; decide) (by rw [c40_13]; decide) (by rw [c40_13]; decide) (by decide) ?_
      refine lv_aload_n hx hb dL_law_1087 rfl (lv_at hl 1 rfl) ?_
      refine lv_aload_n hx hb dL_law_1088 rfl (lv_at hl 0 rfl) ?_
      refine lv_iload hx hb dL_law_1089 (lv_at hl 4 rfl) ?_
      refine lv_iconst (v := 1) hx hb dL_law_1091 (by decide) ?_
      refine lv_iadd hx hb dL_law_1092 ?_
      obtain ⟨c1093, hf⟩ := ck_t hf
      refine va_sld hx hb hXs hbl hbA hS (inb_in c1093) dL_law_1093 ?_
      refine lv_aload_n hx hb dL_law_1094 rfl (lv_at hl 0 rfl) ?_
      refine lv_iload hx hb dL_law_1095 (lv_at hl 4 rfl) ?_
      refine lv_iconst (v := 2) hx hb dL_law_1097 (by decide) ?_
      refine lv_iadd hx hb dL_law_1098 ?_
      obtain ⟨c1099, hf⟩ := ck_t hf
      refine va_sld hx hb hXs hbl hbA hS (inb_in c1099) dL_law_1099 ?_
      refine lv_aload_n hx hb dL_law_1100 rfl (lv_at hl 0 rfl) ?_
      refine lv_iload hx hb dL_law_1101 (lv_at hl 4 rfl) ?_
      refine lv_iconst (v := 3) hx hb dL_law_1103 (by decide) ?_
      refine lv_iadd hx hb dL_law_1104 ?_
      obtain ⟨c1105, hf⟩ := ck_t hf
      refine va_sld hx hb hXs hbl hbA hS (inb_in c1105) dL_law_1105 ?_
      refine lv_aload_n hx hb dL_law_1106 rfl (lv_at hl 3 rfl) ?_
      obtain ⟨q1107, h1107, hf⟩ := bd_t hf
      refine cl_i (vx_runSW (As := [.ref (A 0), .int (xs (x4 + 1).toNatClampNeg), .int (xs (x4 + 2).toNatClampNeg), .int (xs (x4 + 3).toNatClampNeg), .ref (A 91)]) (rest := []) S (mL_table l hfl D cI cZ cJ (aLL_LW_0_1_2_3_4_5_6_8 A) cs cw ct cu cl cb cp co (xs (x4 + 1).toNatClampNeg) (xs (x4 + 2).toNatClampNeg) (xs (x4 + 3).toNatClampNeg) H.size q1107 h1107) (vx_cwSW 5 hts gL_law_L_table rfl rfl rfl (by decide +kernel) ⟨Nat.le_of_ble_eq_true rfl, Nat.le_of_ble_eq_true rfl⟩) (xP_S (cutLL_LW_0_1_2_3_4_5_6_8 _ _ _ _ _ _ _ _ _ _ _ _ _ st0 st0 st0 st0 st0 st0 st0 (fun _ => 0)) hP hD hS hA hK hG hX hZ) rfl rfl hl.1 rfl (lv_room (Nat.le_of_ble_eq_true rfl)) dL_law_1107 ⟨by show _ ≤ 1131; omega, by show _ ≤ 22178; omega⟩) (cutLL_LW_0_1_2_3_4_5_6_8 _ _ _ _ _ _ _ _ _ _ _ _ _ _ _ _ _ _ _ _ _) hP hD hS hA (fun H locs hP hD hS => ?_)
      refine lv_istore (lv' := [(5, .int q1107.1), (0, .ref b), (1, .ref (A 0)), (2, .ref (A 53)), (3, .ref (A 91)), (4, .int x4)]) hx hb dL_law_1110 hl (by decide) rfl (fun ls hl => ?_)
      refine lv_aload_n hx hb dL_law_1112 rfl (lv_at hl 3 rfl) ?_
      refine lv_aload_n hx hb dL_law_1113 rfl (lv_at hl 1 rfl) ?_
      refine lv_iload hx hb dL_law_1114 (lv_at hl 5 rfl) ?_
      refine lv_iconst (v := 1) hx hb dL_law_1116 (by decide) ?_
      refine lv_iadd hx hb dL_law_1117 ?_
      obtain ⟨c1118, hf⟩ := ck_t hf
      refine va_sld hx hb hXs hbl hbA hS (inb_in c1118) dL_law_1118 ?_
      refine lv_aload_n hx hb dL_law_1119 rfl (lv_at hl 1 rfl) ?_
      refine lv_iload hx hb dL_law_1120 (lv_at hl 5 rfl) ?_
      refine lv_iconst (v := 2) hx hb dL_law_1122 (by decide) ?_
      refine lv_iadd hx hb dL_law_1123 ?_
      obtain ⟨c1124, hf⟩ := ck_t hf
      refine va_sld hx hb hXs hbl hbA hS (inb_in c1124) dL_law_1124 ?_
      refine lv_aload_n hx hb dL_law_1125 rfl (lv_at hl 1 rfl) ?_
      refine lv_iload hx hb dL_law_1126 (lv_at hl 5 rfl) ?_
      refine lv_iconst (v := 3) hx hb dL_law_1128 (by decide) ?_
      refine lv_iadd hx hb dL_law_1129 ?_
      obtain ⟨c1130, hf⟩ := ck_t hf
      refine va_sld hx hb hXs hbl hbA hS (inb_in c1130) dL_law_1130 ?_
      obtain ⟨q1131, h1131, hf⟩ := bd_t hf
      refine cl_i (va_runV (As := [.int (xs (x4 + 1).toNatClampNeg), .int (xs (x4 + 2).toNatClampNeg), .int (xs (x4 + 3).toNatClampNeg)]) (rest := []) S (mX6_table l D cI cZ (aLL_X6_7 A) mm (xs (x4 + 1).toNatClampNeg) (xs (x4 + 2).toNatClampNeg) (xs (x4 + 3).toNatClampNeg) H.size q1131 h1131) (cwV 3 hts gL_law_X6_table rfl rfl rfl (by decide +kernel) ⟨Nat.le_of_ble_eq_true rfl, Nat.le_of_ble_eq_true rfl⟩) (mP_V (ci := 6) (cutLL_X6_7 _ _ _ _ _ _ _ _ _ _ _ _ _ st0) hP hD (hK.sub [0, 1] rfl) hG rfl (gX6_0 _ _ _ _)) rfl rfl hl.1 rfl (lv_room (Nat.le_of_ble_eq_true rfl)) dL_law_1131 ⟨by show _ ≤ 1131; omega, by show _ ≤ 22178; omega⟩) (cutLL_X6_7 _ _ _ _ _ _ _ _ _ _ _ _ _ _) hP hD hS hA (fun H locs hP hD hS => ?_)
      refine lv_istore (lv' := [(6, .int q1131.1), (5, .int q1107.1), (0, .ref b), (1, .ref (A 0)), (2, .ref (A 53)), (3, .ref (A 91)), (4, .int x4)]) hx hb dL_law_1134 hl (by decide) rfl (fun ls hl => ?_)
      refine lv_aload_n hx hb dL_law_1136 rfl (lv_at hl 4 rfl) ?_
      obtain ⟨q1137, h1137, hf⟩ := bd_t hf
      refine cl_i (va_runV (As := []) (rest := []) S (mX6_thrown l D cI cZ (aLL_X6_7 A) (q1131.2) H.size q1137 h1137) (cwV 0 hts gL_law_X6_thrown rfl rfl rfl (by decide +kernel) ⟨Nat.le_of_ble_eq_true rfl, Nat.le_of_ble_eq_true rfl⟩) (mP_V (ci := 6) (cutLL_X6_7 _ _ _ _ _ _ _ _ _ _ _ _ _ st0) hP hD (hK.sub [0, 1] rfl) hG rfl (gX6_0 _ _ _ _)) rfl rfl hl.1 rfl (lv_room (Nat.le_of_ble_eq_true rfl)) dL_law_1137 ⟨by show _ ≤ 1131; omega, by show _ ≤ 22178; omega⟩) (cutLL_X6_7 _ _ _ _ _ _ _ _ _ _ _ _ _ _) hP hD hS hA (fun H locs hP hD hS => ?_)
      refine lv_iload hx hb dL_law_1140 (lv_at hl 1 rfl) ?_
      refine lv_icmp_eq (tgt := 1147) hx hb dL_law_1142 (by decide) (fun c1142 => ?_) (fun c1142 => ?_)
      · have hf := if_t c1142 hf
        refine lv_iload hx hb dL_law_1147 (lv_at hl 1 rfl) ?_
        refine lv_if_ne (tgt := 1164) hx hb dL_law_1149 (by decide) (fun c1149 => ?_) (fun c1149 => ?_)
        · have hf := if_f c1149 hf
          refine lv_goto (tgt := 1388) hx hb dL_law_1164 (by decide) ?_
          refine lv_iinc (v := x4 + 6) (lv' := [(4, .int (x4 + 6)), (6, .int q1131.1), (5, .int q1107.1), (0, .ref b), (1, .ref (A 0)), (2, .ref (A 53)), (3, .ref (A 91))]) hx hb dL_law_1388 hl (k := 6) rfl rfl (by decide) rfl (fun ls hl => ?_)
          refine lv_goto (tgt := 23) hx hb dL_law_1391 (by decide) ?_
          refine W.widen (k := c0 + (j + 1)) (n := s0 + 6 * (j + 1)) (by omega) (by omega) ?_
          exact hk23 _ hf (j + 1) (by show x4 + 6 = _; rw [ex4]; exact law_x4 j) hj H locs hP hD hS ls (lv_sub hl [3, 4, 5, 6, 0] rfl)
        · have hf := if_t c1149 hf
          refine lv_aload_n hx hb dL_law_1152 rfl (lv_at hl 5 rfl) ?_
          refine lv_iconst (v := 0) hx hb dL_law_1153 (by decide) ?_
          refine va_lald hx hb hK hP 91 2 (gLL_91 _ _ _ _ _ _ _ _ _ _ _ _ _) rfl (inb_in (by decide)) dL_law_1154 ?_
          refine lv_iload hx hb dL_law_1155 (lv_at hl 0 rfl) ?_
          refine lv_i2l hx hb dL_law_1157 rfl ?_
          refine W.lcmp hx hb dL_law_1158 ?_
          refine lv_if_eq (tgt := 1164) hx hb dL_law_1159 (by decide) (fun c1159 => ?_) (fun c1159 => ?_)
          · have hf := if_t c1159 hf
            refine lv_goto (tgt := 1388) hx hb dL_law_1164 (by decide) ?_
            refine lv_iinc (v := x4 + 6) (lv' := [(4, .int (x4 + 6)), (6, .int q1131.1), (5, .int q1107.1), (0, .ref b), (1, .ref (A 0)), (2, .ref (A 53)), (3, .ref (A 91))]) hx hb dL_law_1388 hl (k := 6) rfl rfl (by decide) rfl (fun ls hl => ?_)
            refine lv_goto (tgt := 23) hx hb dL_law_1391 (by decide) ?_
            refine W.widen (k := c0 + (j + 1)) (n := s0 + 6 * (j + 1)) (by omega) (by omega) ?_
            exact hk23 _ hf (j + 1) (by show x4 + 6 = _; rw [ex4]; exact law_x4 j) hj H locs hP hD hS ls (lv_sub hl [3, 4, 5, 6, 0] rfl)
          · have hf := if_f c1159 hf
            refine lv_iconst (v := 0) hx hb dL_law_1162 (by decide) ?_
            exact absurd (Option.some.inj hf) (by decide)
      · have hf := if_f c1142 hf
        refine lv_iconst (v := 0) hx hb dL_law_1145 (by decide) ?_
        exact absurd (Option.some.inj hf) (by decide)
    have hf := if_f c40_13 hf
    by_cases c40_14 : ((xs x4.toNatClampNeg) &&& 31) = 14
    · have hf := if_t c40_14 hf
      refine lv_tableIn (off := 1127) (tgt := 1167) hx hb dL_law_40 (by rw [c40_14]; decide) (by rw [c40_14]; decide) (by rw [c40_14]; decide) (by decide) ?_
      refine lv_aload_n hx hb dL_law_1167 rfl (lv_at hl 1 rfl) ?_
      refine lv_aload_n hx hb dL_law_1168 rfl (lv_at hl 0 rfl) ?_
      refine lv_iload hx hb dL_law_1169 (lv_at hl 4 rfl) ?_
      refine lv_iconst (v := 1) hx hb dL_law_1171 (by decide) ?_
      refine lv_iadd hx hb dL_law_1172 ?_
      obtain ⟨c1173, hf⟩ := ck_t hf
      refine va_sld hx hb hXs hbl hbA hS (inb_in c1173) dL_law_1173 ?_
      refine lv_aload_n hx hb dL_law_1174 rfl (lv_at hl 0 rfl) ?_
      refine lv_iload hx hb dL_law_1175 (lv_at hl 4 rfl) ?_
      refine lv_iconst (v := 2) hx hb dL_law_1177 (by decide) ?_
      refine lv_iadd hx hb dL_law_1178 ?_
      obtain ⟨c1179, hf⟩ := ck_t hf
      refine va_sld hx hb hXs hbl hbA hS (inb_in c1179) dL_law_1179 ?_
      refine lv_if_eq (tgt := 1187) hx hb dL_law_1180 (by decide) (fun c1180 => ?_) (fun c1180 => ?_)
      · have hf := if_t c1180 hf
        refine lv_iconst (v := 0) hx hb dL_law_1187 (by decide) ?_
        refine lv_aload_n hx hb dL_law_1188 rfl (lv_at hl 3 rfl) ?_
        obtain ⟨q1189, h1189, hf⟩ := bd_t hf
        refine cl_i (vx_runSW (As := [.ref (A 0), .int (xs (x4 + 1).toNatClampNeg), .int 0, .ref (A 91)]) (rest := []) S (mL_got l hfl D cI cZ cJ (aLL_LW_0_1_2_3_4_5_6_8 A) cs cw ct cu cl cb cp co (xs (x4 + 1).toNatClampNeg) 0 H.size q1189 h1189) (vx_cwSW 4 hts gL_law_L_got rfl rfl rfl (by decide +kernel) ⟨Nat.le_of_ble_eq_true rfl, Nat.le_of_ble_eq_true rfl⟩) (xP_S (cutLL_LW_0_1_2_3_4_5_6_8 _ _ _ _ _ _ _ _ _ _ _ _ _ st0 st0 st0 st0 st0 st0 st0 (fun _ => 0)) hP hD hS hA hK hG hX hZ) rfl rfl hl.1 rfl (lv_room (Nat.le_of_ble_eq_true rfl)) dL_law_1189 ⟨by show _ ≤ 1131; omega, by show _ ≤ 22178; omega⟩) (cutLL_LW_0_1_2_3_4_5_6_8 _ _ _ _ _ _ _ _ _ _ _ _ _ _ _ _ _ _ _ _ _) hP hD hS hA (fun H locs hP hD hS => ?_)
        refine lv_istore (lv' := [(5, .int q1189.1), (0, .ref b), (1, .ref (A 0)), (2, .ref (A 53)), (3, .ref (A 91)), (4, .int x4)]) hx hb dL_law_1192 hl (by decide) rfl (fun ls hl => ?_)
        refine lv_aload_n hx hb dL_law_1194 rfl (lv_at hl 3 rfl) ?_
        refine lv_aload_n hx hb dL_law_1195 rfl (lv_at hl 1 rfl) ?_
        refine lv_iload hx hb dL_law_1196 (lv_at hl 5 rfl) ?_
        refine lv_iconst (v := 1) hx hb dL_law_1198 (by decide) ?_
        refine lv_iadd hx hb dL_law_1199 ?_
        obtain ⟨c1200, hf⟩ := ck_t hf
        refine va_sld hx hb hXs hbl hbA hS (inb_in c1200) dL_law_1200 ?_
        refine lv_aload_n hx hb dL_law_1201 rfl (lv_at hl 1 rfl) ?_
        refine lv_iload hx hb dL_law_1202 (lv_at hl 5 rfl) ?_
        refine lv_iconst (v := 2) hx hb dL_law_1204 (by decide) ?_
        refine lv_iadd hx hb dL_law_1205 ?_
        obtain ⟨c1206, hf⟩ := ck_t hf
        refine va_sld hx hb hXs hbl hbA hS (inb_in c1206) dL_law_1206 ?_
        refine lv_if_eq (tgt := 1214) hx hb dL_law_1207 (by decide) (fun c1207 => ?_) (fun c1207 => ?_)
        · have hf := if_t c1207 hf
          refine lv_iconst (v := 0) hx hb dL_law_1214 (by decide) ?_
          obtain ⟨q1215, h1215, hf⟩ := bd_t hf
          refine cl_i (va_runV (As := [.int (xs (x4 + 1).toNatClampNeg), .int 0]) (rest := []) S (mX6_got l D cI cZ (aLL_X6_7 A) mm (xs (x4 + 1).toNatClampNeg) 0 H.size q1215 h1215) (cwV 2 hts gL_law_X6_got rfl rfl rfl (by decide +kernel) ⟨Nat.le_of_ble_eq_true rfl, Nat.le_of_ble_eq_true rfl⟩) (mP_V (ci := 6) (cutLL_X6_7 _ _ _ _ _ _ _ _ _ _ _ _ _ st0) hP hD (hK.sub [0, 1] rfl) hG rfl (gX6_0 _ _ _ _)) rfl rfl hl.1 rfl (lv_room (Nat.le_of_ble_eq_true rfl)) dL_law_1215 ⟨by show _ ≤ 1131; omega, by show _ ≤ 22178; omega⟩) (cutLL_X6_7 _ _ _ _ _ _ _ _ _ _ _ _ _ _) hP hD hS hA (fun H locs hP hD hS => ?_)
          refine lv_istore (lv' := [(6, .int q1215.1), (5, .int q1189.1), (0, .ref b), (1, .ref (A 0)), (2, .ref (A 53)), (3, .ref (A 91)), (4, .int x4)]) hx hb dL_law_1218 hl (by decide) rfl (fun ls hl => ?_)
          refine lv_aload_n hx hb dL_law_1220 rfl (lv_at hl 4 rfl) ?_
          obtain ⟨q1221, h1221, hf⟩ := bd_t hf
          refine cl_i (va_runV (As := []) (rest := []) S (mX6_thrown l D cI cZ (aLL_X6_7 A) (q1215.2) H.size q1221 h1221) (cwV 0 hts gL_law_X6_thrown rfl rfl rfl (by decide +kernel) ⟨Nat.le_of_ble_eq_true rfl, Nat.le_of_ble_eq_true rfl⟩) (mP_V (ci := 6) (cutLL_X6_7 _ _ _ _ _ _ _ _ _ _ _ _ _ st0) hP hD (hK.sub [0, 1] rfl) hG rfl (gX6_0 _ _ _ _)) rfl rfl hl.1 rfl (lv_room (Nat.le_of_ble_eq_true rfl)) dL_law_1221 ⟨by show _ ≤ 1131; omega, by show _ ≤ 22178; omega⟩) (cutLL_X6_7 _ _ _ _ _ _ _ _ _ _ _ _ _ _) hP hD hS hA (fun H locs hP hD hS => ?_)
          refine lv_iload hx hb dL_law_1224 (lv_at hl 1 rfl) ?_
          refine lv_icmp_eq (tgt := 1231) hx hb dL_law_1226 (by decide) (fun c1226 => ?_) (fun c1226 => ?_)
          · have hf := if_t c1226 hf
            refine lv_iload hx hb dL_law_1231 (lv_at hl 1 rfl) ?_
            refine lv_if_ne (tgt := 1248) hx hb dL_law_1233 (by decide) (fun c1233 => ?_) (fun c1233 => ?_)
            · have hf := if_f c1233 hf
              refine lv_goto (tgt := 1388) hx hb dL_law_1248 (by decide) ?_
              refine lv_iinc (v := x4 + 6) (lv' := [(4, .int (x4 + 6)), (6, .int q1215.1), (5, .int q1189.1), (0, .ref b), (1, .ref (A 0)), (2, .ref (A 53)), (3, .ref (A 91))]) hx hb dL_law_1388 hl (k := 6) rfl rfl (by decide) rfl (fun ls hl => ?_)
              refine lv_goto (tgt := 23) hx hb dL_law_1391 (by decide) ?_
              refine W.widen (k := c0 + (j + 1)) (n := s0 + 6 * (j + 1)) (by omega) (by omega) ?_
              exact hk23 _ hf (j + 1) (by show x4 + 6 = _; rw [ex4]; exact law_x4 j) hj H locs hP hD hS ls (lv_sub hl [3, 4, 5, 6, 0] rfl)
            · have hf := if_t c1233 hf
              refine lv_aload_n hx hb dL_law_1236 rfl (lv_at hl 5 rfl) ?_
              refine lv_iconst (v := 0) hx hb dL_law_1237 (by decide) ?_
              refine va_lald hx hb hK hP 91 2 (gLL_91 _ _ _ _ _ _ _ _ _ _ _ _ _) rfl (inb_in (by decide)) dL_law_1238 ?_
              refine lv_iload hx hb dL_law_1239 (lv_at hl 0 rfl) ?_
              refine lv_i2l hx hb dL_law_1241 rfl ?_
              refine W.lcmp hx hb dL_law_1242 ?_
              refine lv_if_eq (tgt := 1248) hx hb dL_law_1243 (by decide) (fun c1243 => ?_) (fun c1243 => ?_)
              · have hf := if_t c1243 hf
                refine lv_goto (tgt := 1388) hx hb dL_law_1248 (by decide) ?_
                refine lv_iinc (v := x4 + 6) (lv' := [(4, .int (x4 + 6)), (6, .int q1215.1), (5, .int q1189.1), (0, .ref b), (1, .ref (A 0)), (2, .ref (A 53)), (3, .ref (A 91))]) hx hb dL_law_1388 hl (k := 6) rfl rfl (by decide) rfl (fun ls hl => ?_)
                refine lv_goto (tgt := 23) hx hb dL_law_1391 (by decide) ?_
                refine W.widen (k := c0 + (j + 1)) (n := s0 + 6 * (j + 1)) (by omega) (by omega) ?_
                exact hk23 _ hf (j + 1) (by show x4 + 6 = _; rw [ex4]; exact law_x4 j) hj H locs hP hD hS ls (lv_sub hl [3, 4, 5, 6, 0] rfl)
              · have hf := if_f c1243 hf
                refine lv_iconst (v := 0) hx hb dL_law_1246 (by decide) ?_
                exact absurd (Option.some.inj hf) (by decide)
          · have hf := if_f c1226 hf
            refine lv_iconst (v := 0) hx hb dL_law_1229 (by decide) ?_
            exact absurd (Option.some.inj hf) (by decide)
        · have hf := if_f c1207 hf
          refine lv_iconst (v := 1) hx hb dL_law_1210 (by decide) ?_
          refine lv_goto (tgt := 1215) hx hb dL_law_1211 (by decide) ?_
          obtain ⟨q1215, h1215, hf⟩ := bd_t hf
          refine cl_i (va_runV (As := [.int (xs (x4 + 1).toNatClampNeg), .int 1]) (rest := []) S (mX6_got l D cI cZ (aLL_X6_7 A) mm (xs (x4 + 1).toNatClampNeg) 1 H.size q1215 h1215) (cwV 2 hts gL_law_X6_got rfl rfl rfl (by decide +kernel) ⟨Nat.le_of_ble_eq_true rfl, Nat.le_of_ble_eq_true rfl⟩) (mP_V (ci := 6) (cutLL_X6_7 _ _ _ _ _ _ _ _ _ _ _ _ _ st0) hP hD (hK.sub [0, 1] rfl) hG rfl (gX6_0 _ _ _ _)) rfl rfl hl.1 rfl (lv_room (Nat.le_of_ble_eq_true rfl)) dL_law_1215 ⟨by show _ ≤ 1131; omega, by show _ ≤ 22178; omega⟩) (cutLL_X6_7 _ _ _ _ _ _ _ _ _ _ _ _ _ _) hP hD hS hA (fun H locs hP hD hS => ?_)
          refine lv_istore (lv' := [(6, .int q1215.1), (5, .int q1189.1), (0, .ref b), (1, .ref (A 0)), (2, .ref (A 53)), (3, .ref (A 91)), (4, .int x4)]) hx hb dL_law_1218 hl (by decide) rfl (fun ls hl => ?_)
          refine lv_aload_n hx hb dL_law_1220 rfl (lv_at hl 4 rfl) ?_
          obtain ⟨q1221, h1221, hf⟩ := bd_t hf
          refine cl_i (va_runV (As := []) (rest := []) S (mX6_thrown l D cI cZ (aLL_X6_7 A) (q1215.2) H.size q1221 h1221) (cwV 0 hts gL_law_X6_thrown rfl rfl rfl (by decide +kernel) ⟨Nat.le_of_ble_eq_true rfl, Nat.le_of_ble_eq_true rfl⟩) (mP_V (ci := 6) (cutLL_X6_7 _ _ _ _ _ _ _ _ _ _ _ _ _ st0) hP hD (hK.sub [0, 1] rfl) hG rfl (gX6_0 _ _ _ _)) rfl rfl hl.1 rfl (lv_room (Nat.le_of_ble_eq_true rfl)) dL_law_1221 ⟨by show _ ≤ 1131; omega, by show _ ≤ 22178; omega⟩) (cutLL_X6_7 _ _ _ _ _ _ _ _ _ _ _ _ _ _) hP hD hS hA (fun H locs hP hD hS => ?_)
          refine lv_iload hx hb dL_law_1224 (lv_at hl 1 rfl) ?_
          refine lv_icmp_eq (tgt := 1231) hx hb dL_law_1226 (by decide) (fun c1226 => ?_) (fun c1226 => ?_)
          · have hf := if_t c1226 hf
            refine lv_iload hx hb dL_law_1231 (lv_at hl 1 rfl) ?_
            refine lv_if_ne (tgt := 1248) hx hb dL_law_1233 (by decide) (fun c1233 => ?_) (fun c1233 => ?_)
            · have hf := if_f c1233 hf
              refine lv_goto (tgt := 1388) hx hb dL_law_1248 (by decide) ?_
              refine lv_iinc (v := x4 + 6) (lv' := [(4, .int (x4 + 6)), (6, .int q1215.1), (5, .int q1189.1), (0, .ref b), (1, .ref (A 0)), (2, .ref (A 53)), (3, .ref (A 91))]) hx hb dL_law_1388 hl (k := 6) rfl rfl (by decide) rfl (fun ls hl => ?_)
              refine lv_goto (tgt := 23) hx hb dL_law_1391 (by decide) ?_
              refine W.widen (k := c0 + (j + 1)) (n := s0 + 6 * (j + 1)) (by omega) (by omega) ?_
              exact hk23 _ hf (j + 1) (by show x4 + 6 = _; rw [ex4]; exact law_x4 j) hj H locs hP hD hS ls (lv_sub hl [3, 4, 5, 6, 0] rfl)
            · have hf := if_t c1233 hf
              refine lv_aload_n hx hb dL_law_1236 rfl (lv_at hl 5 rfl) ?_
              refine lv_iconst (v := 0) hx hb dL_law_1237 (by decide) ?_
              refine va_lald hx hb hK hP 91 2 (gLL_91 _ _ _ _ _ _ _ _ _ _ _ _ _) rfl (inb_in (by decide)) dL_law_1238 ?_
              refine lv_iload hx hb dL_law_1239 (lv_at hl 0 rfl) ?_
              refine lv_i2l hx hb dL_law_1241 rfl ?_
              refine W.lcmp hx hb dL_law_1242 ?_
              refine lv_if_eq (tgt := 1248) hx hb dL_law_1243 (by decide) (fun c1243 => ?_) (fun c1243 => ?_)
              · have hf := if_t c1243 hf
                refine lv_goto (tgt := 1388) hx hb dL_law_1248 (by decide) ?_
                refine lv_iinc (v := x4 + 6) (lv' := [(4, .int (x4 + 6)), (6, .int q1215.1), (5, .int q1189.1), (0, .ref b), (1, .ref (A 0)), (2, .ref (A 53)), (3, .ref (A 91))]) hx hb dL_law_1388 hl (k := 6) rfl rfl (by decide) rfl (fun ls hl => ?_)
                refine lv_goto (tgt := 23) hx hb dL_law_1391 (by decide) ?_
                refine W.widen (k := c0 + (j + 1)) (n := s0 + 6 * (j + 1)) (by omega) (by omega) ?_
                exact hk23 _ hf (j + 1) (by show x4 + 6 = _; rw [ex4]; exact law_x4 j) hj H locs hP hD hS ls (lv_sub hl [3, 4, 5, 6, 0] rfl)
              · have hf := if_f c1243 hf
                refine lv_iconst (v := 0) hx hb dL_law_1246 (by decide) ?_
                exact absurd (Option.some.inj hf) (by decide)
          · have hf := if_f c1226 hf
            refine lv_iconst (v := 0) hx hb dL_law_1229 (by decide) ?_
            exact absurd (Option.some.inj hf) (by decide)
      · have hf := if_f c1180 hf
        refine lv_iconst (v := 1) hx hb dL_law_1183 (by decide) ?_
        refine lv_goto (tgt := 1188) hx hb dL_law_1184 (by decide) ?_
        refine lv_aload_n hx hb dL_law_1188 rfl (lv_at hl 3 rfl) ?_
        obtain ⟨q1189, h1189, hf⟩ := bd_t hf
        refine cl_i (vx_runSW (As := [.ref (A 0), .int (xs (x4 + 1).toNatClampNeg), .int 1, .ref (A 91)]) (rest := []) S (mL_got l hfl D cI cZ cJ (aLL_LW_0_1_2_3_4_5_6_8 A) cs cw ct cu cl cb cp co (xs (x4 + 1).toNatClampNeg) 1 H.size q1189 h1189) (vx_cwSW 4 hts gL_law_L_got rfl rfl rfl (by decide +kernel) ⟨Nat.le_of_ble_eq_true rfl, Nat.le_of_ble_eq_true rfl⟩) (xP_S (cutLL_LW_0_1_2_3_4_5_6_8 _ _ _ _ _ _ _ _ _ _ _ _ _ st0 st0 st0 st0 st0 st0 st0 (fun _ => 0)) hP hD hS hA hK hG hX hZ) rfl rfl hl.1 rfl (lv_room (Nat.le_of_ble_eq_true rfl)) dL_law_1189 ⟨by show _ ≤ 1131; omega, by show _ ≤ 22178; omega⟩) (cutLL_LW_0_1_2_3_4_5_6_8 _ _ _ _ _ _ _ _ _ _ _ _ _ _ _ _ _ _ _ _ _) hP hD hS hA (fun H locs hP hD hS => ?_)
        refine lv_istore (lv' := [(5, .int q1189.1), (0, .ref b), (1, .ref (A 0)), (2, .ref (A 53)), (3, .ref (A 91)), (4, .int x4)]) hx hb dL_law_1192 hl (by decide) rfl (fun ls hl => ?_)
        refine lv_aload_n hx hb dL_law_1194 rfl (lv_at hl 3 rfl) ?_
        refine lv_aload_n hx hb dL_law_1195 rfl (lv_at hl 1 rfl) ?_
        refine lv_iload hx hb dL_law_1196 (lv_at hl 5 rfl) ?_
        refine lv_iconst (v := 1) hx hb dL_law_1198 (by decide) ?_
        refine lv_iadd hx hb dL_law_1199 ?_
        obtain ⟨c1200, hf⟩ := ck_t hf
        refine va_sld hx hb hXs hbl hbA hS (inb_in c1200) dL_law_1200 ?_
        refine lv_aload_n hx hb dL_law_1201 rfl (lv_at hl 1 rfl) ?_
        refine lv_iload hx hb dL_law_1202 (lv_at hl 5 rfl) ?_
        refine lv_iconst (v := 2) hx hb dL_law_1204 (by decide) ?_
        refine lv_iadd hx hb dL_law_1205 ?_
        obtain ⟨c1206, hf⟩ := ck_t hf
        refine va_sld hx hb hXs hbl hbA hS (inb_in c1206) dL_law_1206 ?_
        refine lv_if_eq (tgt := 1214) hx hb dL_law_1207 (by decide) (fun c1207 => ?_) (fun c1207 => ?_)
        · have hf := if_t c1207 hf
          refine lv_iconst (v := 0) hx hb dL_law_1214 (by decide) ?_
          obtain ⟨q1215, h1215, hf⟩ := bd_t hf
          refine cl_i (va_runV (As := [.int (xs (x4 + 1).toNatClampNeg), .int 0]) (rest := []) S (mX6_got l D cI cZ (aLL_X6_7 A) mm (xs (x4 + 1).toNatClampNeg) 0 H.size q1215 h1215) (cwV 2 hts gL_law_X6_got rfl rfl rfl (by decide +kernel) ⟨Nat.le_of_ble_eq_true rfl, Nat.le_of_ble_eq_true rfl⟩) (mP_V (ci := 6) (cutLL_X6_7 _ _ _ _ _ _ _ _ _ _ _ _ _ st0) hP hD (hK.sub [0, 1] rfl) hG rfl (gX6_0 _ _ _ _)) rfl rfl hl.1 rfl (lv_room (Nat.le_of_ble_eq_true rfl)) dL_law_1215 ⟨by show _ ≤ 1131; omega, by show _ ≤ 22178; omega⟩) (cutLL_X6_7 _ _ _ _ _ _ _ _ _ _ _ _ _ _) hP hD hS hA (fun H locs hP hD hS => ?_)
          refine lv_istore (lv' := [(6, .int q1215.1), (5, .int q1189.1), (0, .ref b), (1, .ref (A 0)), (2, .ref (A 53)), (3, .ref (A 91)), (4, .int x4)]) hx hb dL_law_1218 hl (by decide) rfl (fun ls hl => ?_)
          refine lv_aload_n hx hb dL_law_1220 rfl (lv_at hl 4 rfl) ?_
          obtain ⟨q1221, h1221, hf⟩ := bd_t hf
          refine cl_i (va_runV (As := []) (rest := []) S (mX6_thrown l D cI cZ (aLL_X6_7 A) (q1215.2) H.size q1221 h1221) (cwV 0 hts gL_law_X6_thrown rfl rfl rfl (by decide +kernel) ⟨Nat.le_of_ble_eq_true rfl, Nat.le_of_ble_eq_true rfl⟩) (mP_V (ci := 6) (cutLL_X6_7 _ _ _ _ _ _ _ _ _ _ _ _ _ st0) hP hD (hK.sub [0, 1] rfl) hG rfl (gX6_0 _ _ _ _)) rfl rfl hl.1 rfl (lv_room (Nat.le_of_ble_eq_true rfl)) dL_law_1221 ⟨by show _ ≤ 1131; omega, by show _ ≤ 22178; omega⟩) (cutLL_X6_7 _ _ _ _ _ _ _ _ _ _ _ _ _ _) hP hD hS hA (fun H locs hP hD hS => ?_)
          refine lv_iload hx hb dL_law_1224 (lv_at hl 1 rfl) ?_
          refine lv_icmp_eq (tgt := 1231) hx hb dL_law_1226 (by decide) (fun c1226 => ?_) (fun c1226 => ?_)
          · have hf := if_t c1226 hf
            refine lv_iload hx hb dL_law_1231 (lv_at hl 1 rfl) ?_
            refine lv_if_ne (tgt := 1248) hx hb dL_law_1233 (by decide) (fun c1233 => ?_) (fun c1233 => ?_)
            · have hf := if_f c1233 hf
              refine lv_goto (tgt := 1388) hx hb dL_law_1248 (by decide) ?_
              refine lv_iinc (v := x4 + 6) (lv' := [(4, .int (x4 + 6)), (6, .int q1215.1), (5, .int q1189.1), (0, .ref b), (1, .ref (A 0)), (2, .ref (A 53)), (3, .ref (A 91))]) hx hb dL_law_1388 hl (k := 6) rfl rfl (by decide) rfl (fun ls hl => ?_)
              refine lv_goto (tgt := 23) hx hb dL_law_1391 (by decide) ?_
              refine W.widen (k := c0 + (j + 1)) (n := s0 + 6 * (j + 1)) (by omega) (by omega) ?_
              exact hk23 _ hf (j + 1) (by show x4 + 6 = _; rw [ex4]; exact law_x4 j) hj H locs hP hD hS ls (lv_sub hl [3, 4, 5, 6, 0] rfl)
            · have hf := if_t c1233 hf
              refine lv_aload_n hx hb dL_law_1236 rfl (lv_at hl 5 rfl) ?_
              refine lv_iconst (v := 0) hx hb dL_law_1237 (by decide) ?_
              refine va_lald hx hb hK hP 91 2 (gLL_91 _ _ _ _ _ _ _ _ _ _ _ _ _) rfl (inb_in (by decide)) dL_law_1238 ?_
              refine lv_iload hx hb dL_law_1239 (lv_at hl 0 rfl) ?_
              refine lv_i2l hx hb dL_law_1241 rfl ?_
              refine W.lcmp hx hb dL_law_1242 ?_
              refine lv_if_eq (tgt := 1248) hx hb dL_law_1243 (by decide) (fun c1243 => ?_) (fun c1243 => ?_)
              · have hf := if_t c1243 hf
                refine lv_goto (tgt := 1388) hx hb dL_law_1248 (by decide) ?_
                refine lv_iinc (v := x4 + 6) (lv' := [(4, .int (x4 + 6)), (6, .int q1215.1), (5, .int q1189.1), (0, .ref b), (1, .ref (A 0)), (2, .ref (A 53)), (3, .ref (A 91))]) hx hb dL_law_1388 hl (k := 6) rfl rfl (by decide) rfl (fun ls hl => ?_)
                refine lv_goto (tgt := 23) hx hb dL_law_1391 (by decide) ?_
                refine W.widen (k := c0 + (j + 1)) (n := s0 + 6 * (j + 1)) (by omega) (by omega) ?_
                exact hk23 _ hf (j + 1) (by show x4 + 6 = _; rw [ex4]; exact law_x4 j) hj H locs hP hD hS ls (lv_sub hl [3, 4, 5, 6, 0] rfl)
              · have hf := if_f c1243 hf
                refine lv_iconst (v := 0) hx hb dL_law_1246 (by decide) ?_
                exact absurd (Option.some.inj hf) (by decide)
          · have hf := if_f c1226 hf
            refine lv_iconst (v := 0) hx hb dL_law_1229 (by decide) ?_
            exact absurd (Option.some.inj hf) (by decide)
        · have hf := if_f c1207 hf
          refine lv_iconst (v := 1) hx hb dL_law_1210 (by decide) ?_
          refine lv_goto (tgt := 1215) hx hb dL_law_1211 (by decide) ?_
          obtain ⟨q1215, h1215, hf⟩ := bd_t hf
          refine cl_i (va_runV (As := [.int (xs (x4 + 1).toNatClampNeg), .int 1]) (rest := []) S (mX6_got l D cI cZ (aLL_X6_7 A) mm (xs (x4 + 1).toNatClampNeg) 1 H.size q1215 h1215) (cwV 2 hts gL_law_X6_got rfl rfl rfl (by decide +kernel) ⟨Nat.le_of_ble_eq_true rfl, Nat.le_of_ble_eq_true rfl⟩) (mP_V (ci := 6) (cutLL_X6_7 _ _ _ _ _ _ _ _ _ _ _ _ _ st0) hP hD (hK.sub [0, 1] rfl) hG rfl (gX6_0 _ _ _ _)) rfl rfl hl.1 rfl (lv_room (Nat.le_of_ble_eq_true rfl)) dL_law_1215 ⟨by show _ ≤ 1131; omega, by show _ ≤ 22178; omega⟩) (cutLL_X6_7 _ _ _ _ _ _ _ _ _ _ _ _ _ _) hP hD hS hA (fun H locs hP hD hS => ?_)
          refine lv_istore (lv' := [(6, .int q1215.1), (5, .int q1189.1), (0, .ref b), (1, .ref (A 0)), (2, .ref (A 53)), (3, .ref (A 91)), (4, .int x4)]) hx hb dL_law_1218 hl (by decide) rfl (fun ls hl => ?_)
          refine lv_aload_n hx hb dL_law_1220 rfl (lv_at hl 4 rfl) ?_
          obtain ⟨q1221, h1221, hf⟩ := bd_t hf
          refine cl_i (va_runV (As := []) (rest := []) S (mX6_thrown l D cI cZ (aLL_X6_7 A) (q1215.2) H.size q1221 h1221) (cwV 0 hts gL_law_X6_thrown rfl rfl rfl (by decide +kernel) ⟨Nat.le_of_ble_eq_true rfl, Nat.le_of_ble_eq_true rfl⟩) (mP_V (ci := 6) (cutLL_X6_7 _ _ _ _ _ _ _ _ _ _ _ _ _ st0) hP hD (hK.sub [0, 1] rfl) hG rfl (gX6_0 _ _ _ _)) rfl rfl hl.1 rfl (lv_room (Nat.le_of_ble_eq_true rfl)) dL_law_1221 ⟨by show _ ≤ 1131; omega, by show _ ≤ 22178; omega⟩) (cutLL_X6_7 _ _ _ _ _ _ _ _ _ _ _ _ _ _) hP hD hS hA (fun H locs hP hD hS => ?_)
          refine lv_iload hx hb dL_law_1224 (lv_at hl 1 rfl) ?_
          refine lv_icmp_eq (tgt := 1231) hx hb dL_law_1226 (by decide) (fun c1226 => ?_) (fun c1226 => ?_)
          · have hf := if_t c1226 hf
            refine lv_iload hx hb dL_law_1231 (lv_at hl 1 rfl) ?_
            refine lv_if_ne (tgt := 1248) hx hb dL_law_1233 (by decide) (fun c1233 => ?_) (fun c1233 => ?_)
            · have hf := if_f c1233 hf
              refine lv_goto (tgt := 1388) hx hb dL_law_1248 (by decide) ?_
              refine lv_iinc (v := x4 + 6) (lv' := [(4, .int (x4 + 6)), (6, .int q1215.1), (5, .int q1189.1), (0, .ref b), (1, .ref (A 0)), (2, .ref (A 53)), (3, .ref (A 91))]) hx hb dL_law_1388 hl (k := 6) rfl rfl (by decide) rfl (fun ls hl => ?_)
              refine lv_goto (tgt := 23) hx hb dL_law_1391 (by decide) ?_
              refine W.widen (k := c0 + (j + 1)) (n := s0 + 6 * (j + 1)) (by omega) (by omega) ?_
              exact hk23 _ hf (j + 1) (by show x4 + 6 = _; rw [ex4]; exact law_x4 j) hj H locs hP hD hS ls (lv_sub hl [3, 4, 5, 6, 0] rfl)
            · have hf := if_t c1233 hf
              refine lv_aload_n hx hb dL_law_1236 rfl (lv_at hl 5 rfl) ?_
              refine lv_iconst (v := 0) hx hb dL_law_1237 (by decide) ?_
              refine va_lald hx hb hK hP 91 2 (gLL_91 _ _ _ _ _ _ _ _ _ _ _ _ _) rfl (inb_in (by decide)) dL_law_1238 ?_
              refine lv_iload hx hb dL_law_1239 (lv_at hl 0 rfl) ?_
              refine lv_i2l hx hb dL_law_1241 rfl ?_
              refine W.lcmp hx hb dL_law_1242 ?_
              refine lv_if_eq (tgt := 1248) hx hb dL_law_1243 (by decide) (fun c1243 => ?_) (fun c1243 => ?_)
              · have hf := if_t c1243 hf
                refine lv_goto (tgt := 1388) hx hb dL_law_1248 (by decide) ?_
                refine lv_iinc (v := x4 + 6) (lv' := [(4, .int (x4 + 6)), (6, .int q1215.1), (5, .int q1189.1), (0, .ref b), (1, .ref (A 0)), (2, .ref (A 53)), (3, .ref (A 91))]) hx hb dL_law_1388 hl (k := 6) rfl rfl (by decide) rfl (fun ls hl => ?_)
                refine lv_goto (tgt := 23) hx hb dL_law_1391 (by decide) ?_
                refine W.widen (k := c0 + (j + 1)) (n := s0 + 6 * (j + 1)) (by omega) (by omega) ?_
                exact hk23 _ hf (j + 1) (by show x4 + 6 = _; rw [ex4]; exact law_x4 j) hj H locs hP hD hS ls (lv_sub hl [3, 4, 5, 6, 0] rfl)
              · have hf := if_f c1243 hf
                refine lv_iconst (v := 0) hx hb dL_law_1246 (by decide) ?_
                exact absurd (Option.some.inj hf) (by decide)
          · have hf := if_f c1226 hf
            refine lv_iconst (v := 0) hx hb dL_law_1229 (by decide) ?_
            exact absurd (Option.some.inj hf) (by decide)
    have hf := if_f c40_14 hf
    by_cases c40_15 : ((xs x4.toNatClampNeg) &&& 31) = 15
    · have hf := if_t c40_15 hf
      refine lv_tableIn (off := 1211) (tgt := 1251) hx hb dL_law_40 (by rw [c40_15]; decide) (by rw [c40_15]; decide) (by rw [c40_15]; decide) (by decide) ?_
      refine lv_aload_n hx hb dL_law_1251 rfl (lv_at hl 1 rfl) ?_
      obtain ⟨q1252, h1252, hf⟩ := bd_t hf
      refine cl_i (va_runV (As := []) (rest := []) S (mX5_isAtRest l D cI cZ (aLL_X5_0_1_2_3_4_5_6 A) cs cw ct cu cl cb cp H.size q1252 h1252) (cwV 0 hts gL_law_X5_isAtRest rfl rfl rfl (by decide +kernel) ⟨Nat.le_of_ble_eq_true rfl, Nat.le_of_ble_eq_true rfl⟩) (mP_V (ci := 5) (cutLL_X5_0_1_2_3_4_5_6 _ _ _ _ _ _ _ _ _ _ _ _ _ st0 st0 st0 st0 st0 st0 st0) hP hD (hK.sub [0, 1] rfl) hG rfl (gX5_0 _ _ _ _ _ _ _ _ _ _)) rfl rfl hl.1 rfl (lv_room (Nat.le_of_ble_eq_true rfl)) dL_law_1252 ⟨by show _ ≤ 1131; omega, by show _ ≤ 22178; omega⟩) (cutLL_X5_0_1_2_3_4_5_6 _ _ _ _ _ _ _ _ _ _ _ _ _ _ _ _ _ _ _ _) hP hD hS hA (fun H locs hP hD hS => ?_)
      refine lv_aload_n hx hb dL_law_1255 rfl (lv_at hl 2 rfl) ?_
      obtain ⟨q1256, h1256, hf⟩ := bd_t hf
      refine cl_i (va_runV (As := []) (rest := [.int q1252.1]) S (mX6_isAtRest l D cI cZ (aLL_X6_7 A) mm H.size q1256 h1256) (cwV 0 hts gL_law_X6_isAtRest rfl rfl rfl (by decide +kernel) ⟨Nat.le_of_ble_eq_true rfl, Nat.le_of_ble_eq_true rfl⟩) (mP_V (ci := 6) (cutLL_X6_7 _ _ _ _ _ _ _ _ _ _ _ _ _ st0) hP hD (hK.sub [0, 1] rfl) hG rfl (gX6_0 _ _ _ _)) rfl rfl hl.1 rfl (lv_room (Nat.le_of_ble_eq_true rfl)) dL_law_1256 ⟨by show _ ≤ 1131; omega, by show _ ≤ 22178; omega⟩) (cutLL_X6_7 _ _ _ _ _ _ _ _ _ _ _ _ _ _) hP hD hS hA (fun H locs hP hD hS => ?_)
      refine lv_icmp_eq (tgt := 1388) hx hb dL_law_1259 (by decide) (fun c1259 => ?_) (fun c1259 => ?_)
      · have hf := if_t c1259 hf
        refine lv_iinc (v := x4 + 6) (lv' := [(4, .int (x4 + 6)), (0, .ref b), (1, .ref (A 0)), (2, .ref (A 53)), (3, .ref (A 91))]) hx hb dL_law_1388 hl (k := 4) rfl rfl (by decide) rfl (fun ls hl => ?_)
        refine lv_goto (tgt := 23) hx hb dL_law_1391 (by decide) ?_
        refine W.widen (k := c0 + (j + 1)) (n := s0 + 6 * (j + 1)) (by omega) (by omega) ?_
        exact hk23 _ hf (j + 1) (by show x4 + 6 = _; rw [ex4]; exact law_x4 j) hj H locs hP hD hS ls (lv_sub hl [1, 2, 3, 4, 0] rfl)
      · have hf := if_f c1259 hf
        refine lv_iconst (v := 0) hx hb dL_law_1262 (by decide) ?_
        exact absurd (Option.some.inj hf) (by decide)
    have hf := if_f c40_15 hf
    by_cases c40_16 : ((xs x4.toNatClampNeg) &&& 31) = 16
    · have hf := if_t c40_16 hf
      refine lv_tableIn (off := 1224) (tgt := 1264) hx hb dL_law_40 (by rw [c40_16]; decide) (by rw [c40_16]; decide) (by rw [c40_16]; decide) (by decide) ?_
      refine lv_aload_n hx hb dL_law_1264 rfl (lv_at hl 1 rfl) ?_
      refine lv_aload_n hx hb dL_law_1265 rfl (lv_at hl 0 rfl) ?_
      refine lv_iload hx hb dL_law_1266 (lv_at hl 4 rfl) ?_
      refine lv_iconst (v := 1) hx hb dL_law_1268 (by decide) ?_
      refine lv_iadd hx hb dL_law_1269 ?_
      obtain ⟨c1270, hf⟩ := ck_t hf
      refine va_sld hx hb hXs hbl hbA hS (inb_in c1270) dL_law_1270 ?_
      refine lv_aload_n hx hb dL_law_1271 rfl (lv_at hl 3 rfl) ?_
      obtain ⟨q1272, h1272, hf⟩ := bd_t hf
      refine cl_i (vx_runSW (As := [.ref (A 0), .int (xs (x4 + 1).toNatClampNeg), .ref (A 91)]) (rest := []) S (mL_found l hfl D cI cZ cJ (aLL_LW_0_1_2_3_4_5_6_8 A) cs cw ct cu cl cb cp co (xs (x4 + 1).toNatClampNeg) H.size q1272 h1272) (vx_cwSW 3 hts gL_law_L_found rfl rfl rfl (by decide +kernel) ⟨Nat.le_of_ble_eq_true rfl, Nat.le_of_ble_eq_true rfl⟩) (xP_S (cutLL_LW_0_1_2_3_4_5_6_8 _ _ _ _ _ _ _ _ _ _ _ _ _ st0 st0 st0 st0 st0 st0 st0 (fun _ => 0)) hP hD hS hA hK hG hX hZ) rfl rfl hl.1 rfl (lv_room (Nat.le_of_ble_eq_true rfl)) dL_law_1272 ⟨by show _ ≤ 1131; omega, by show _ ≤ 22178; omega⟩) (cutLL_LW_0_1_2_3_4_5_6_8 _ _ _ _ _ _ _ _ _ _ _ _ _ _ _ _ _ _ _ _ _) hP hD hS hA (fun H locs hP hD hS => ?_)
      refine lv_istore (lv' := [(5, .int q1272.1), (0, .ref b), (1, .ref (A 0)), (2, .ref (A 53)), (3, .ref (A 91)), (4, .int x4)]) hx hb dL_law_1275 hl (by decide) rfl (fun ls hl => ?_)
      refine lv_aload_n hx hb dL_law_1277 rfl (lv_at hl 3 rfl) ?_
      refine lv_aload_n hx hb dL_law_1278 rfl (lv_at hl 1 rfl) ?_
      refine lv_iload hx hb dL_law_1279 (lv_at hl 5 rfl) ?_
      refine lv_iconst (v := 1) hx hb dL_law_1281 (by decide) ?_
      refine lv_iadd hx hb dL_law_1282 ?_
      obtain ⟨c1283, hf⟩ := ck_t hf
      refine va_sld hx hb hXs hbl hbA hS (inb_in c1283) dL_law_1283 ?_
      obtain ⟨q1284, h1284, hf⟩ := bd_t hf
      refine cl_i (va_runV (As := [.int (xs (x4 + 1).toNatClampNeg)]) (rest := []) S (mX6_found l D cI cZ (aLL_X6_7 A) mm (xs (x4 + 1).toNatClampNeg) H.size q1284 h1284) (cwV 1 hts gL_law_X6_found rfl rfl rfl (by decide +kernel) ⟨Nat.le_of_ble_eq_true rfl, Nat.le_of_ble_eq_true rfl⟩) (mP_V (ci := 6) (cutLL_X6_7 _ _ _ _ _ _ _ _ _ _ _ _ _ st0) hP hD (hK.sub [0, 1] rfl) hG rfl (gX6_0 _ _ _ _)) rfl rfl hl.1 rfl (lv_room (Nat.le_of_ble_eq_true rfl)) dL_law_1284 ⟨by show _ ≤ 1131; omega, by show _ ≤ 22178; omega⟩) (cutLL_X6_7 _ _ _ _ _ _ _ _ _ _ _ _ _ _) hP hD hS hA (fun H locs hP hD hS => ?_)
      refine lv_istore (lv' := [(6, .int q1284.1), (5, .int q1272.1), (0, .ref b), (1, .ref (A 0)), (2, .ref (A 53)), (3, .ref (A 91)), (4, .int x4)]) hx hb dL_law_1287 hl (by decide) rfl (fun ls hl => ?_)
      refine lv_aload_n hx hb dL_law_1289 rfl (lv_at hl 4 rfl) ?_
      obtain ⟨q1290, h1290, hf⟩ := bd_t hf
      refine cl_i (va_runV (As := []) (rest := []) S (mX6_thrown l D cI cZ (aLL_X6_7 A) (q1284.2) H.size q1290 h1290) (cwV 0 hts gL_law_X6_thrown rfl rfl rfl (by decide +kernel) ⟨Nat.le_of_ble_eq_true rfl, Nat.le_of_ble_eq_true rfl⟩) (mP_V (ci := 6) (cutLL_X6_7 _ _ _ _ _ _ _ _ _ _ _ _ _ st0) hP hD (hK.sub [0, 1] rfl) hG rfl (gX6_0 _ _ _ _)) rfl rfl hl.1 rfl (lv_room (Nat.le_of_ble_eq_true rfl)) dL_law_1290 ⟨by show _ ≤ 1131; omega, by show _ ≤ 22178; omega⟩) (cutLL_X6_7 _ _ _ _ _ _ _ _ _ _ _ _ _ _) hP hD hS hA (fun H locs hP hD hS => ?_)
      refine lv_iload hx hb dL_law_1293 (lv_at hl 1 rfl) ?_
      refine lv_icmp_eq (tgt := 1300) hx hb dL_law_1295 (by decide) (fun c1295 => ?_) (fun c1295 => ?_)
      · have hf := if_t c1295 hf
        refine lv_iload hx hb dL_law_1300 (lv_at hl 1 rfl) ?_
        refine lv_if_ne (tgt := 1317) hx hb dL_law_1302 (by decide) (fun c1302 => ?_) (fun c1302 => ?_)
        · have hf := if_f c1302 hf
          refine lv_goto (tgt := 1388) hx hb dL_law_1317 (by decide) ?_
          refine lv_iinc (v := x4 + 6) (lv' := [(4, .int (x4 + 6)), (6, .int q1284.1), (5, .int q1272.1), (0, .ref b), (1, .ref (A 0)), (2, .ref (A 53)), (3, .ref (A 91))]) hx hb dL_law_1388 hl (k := 6) rfl rfl (by decide) rfl (fun ls hl => ?_)
          refine lv_goto (tgt := 23) hx hb dL_law_1391 (by decide) ?_
          refine W.widen (k := c0 + (j + 1)) (n := s0 + 6 * (j + 1)) (by omega) (by omega) ?_
          exact hk23 _ hf (j + 1) (by show x4 + 6 = _; rw [ex4]; exact law_x4 j) hj H locs hP hD hS ls (lv_sub hl [3, 4, 5, 6, 0] rfl)
        · have hf := if_t c1302 hf
          refine lv_aload_n hx hb dL_law_1305 rfl (lv_at hl 5 rfl) ?_
          refine lv_iconst (v := 0) hx hb dL_law_1306 (by decide) ?_
          refine va_lald hx hb hK hP 91 2 (gLL_91 _ _ _ _ _ _ _ _ _ _ _ _ _) rfl (inb_in (by decide)) dL_law_1307 ?_
          refine lv_iload hx hb dL_law_1308 (lv_at hl 0 rfl) ?_
          refine lv_i2l hx hb dL_law_1310 rfl ?_
          refine W.lcmp hx hb dL_law_1311 ?_
          refine lv_if_eq (tgt := 1317) hx hb dL_law_1312 (by decide) (fun c1312 => ?_) (fun c1312 => ?_)
          · have hf := if_t c1312 hf
            refine lv_goto (tgt := 1388) hx hb dL_law_1317 (by decide) ?_
            refine lv_iinc (v := x4 + 6) (lv' := [(4, .int (x4 + 6)), (6, .int q1284.1), (5, .int q1272.1), (0, .ref b), (1, .ref (A 0)), (2, .ref (A 53)), (3, .ref (A 91))]) hx hb dL_law_1388 hl (k := 6) rfl rfl (by decide) rfl (fun ls hl => ?_)
            refine lv_goto (tgt := 23) hx hb dL_law_1391 (by decide) ?_
            refine W.widen (k := c0 + (j + 1)) (n := s0 + 6 * (j + 1)) (by omega) (by omega) ?_
            exact hk23 _ hf (j + 1) (by show x4 + 6 = _; rw [ex4]; exact law_x4 j) hj H locs hP hD hS ls (lv_sub hl [3, 4, 5, 6, 0] rfl)
          · have hf := if_f c1312 hf
            refine lv_iconst (v := 0) hx hb dL_law_1315 (by decide) ?_
            exact absurd (Option.some.inj hf) (by decide)
      · have hf := if_f c1295 hf
        refine lv_iconst (v := 0) hx hb dL_law_1298 (by decide) ?_
        exact absurd (Option.some.inj hf) (by decide)
    have hf := if_f c40_16 hf
    by_cases c40_17 : ((xs x4.toNatClampNeg) &&& 31) = 17
    · have hf := if_t c40_17 hf
      refine lv_tableIn (off := 1280) (tgt := 1320) hx hb dL_law_40 (by rw [c40_17]; decide) (by rw [c40_17]; decide) (by rw [c40_17]; decide) (by decide) ?_
      refine lv_aload_n hx hb dL_law_1320 rfl (lv_at hl 1 rfl) ?_
      refine lv_aload_n hx hb dL_law_1321 rfl (lv_at hl 0 rfl) ?_
      refine lv_iload hx hb dL_law_1322 (lv_at hl 4 rfl) ?_
      refine lv_iconst (v := 1) hx hb dL_law_1324 (by decide) ?_
      refine lv_iadd hx hb dL_law_1325 ?_
      obtain ⟨c1326, hf⟩ := ck_t hf
      refine va_sld hx hb hXs hbl hbA hS (inb_in c1326) dL_law_1326 ?_
      refine lv_aload_n hx hb dL_law_1327 rfl (lv_at hl 0 rfl) ?_
      refine lv_iload hx hb dL_law_1328 (lv_at hl 4 rfl) ?_
      refine lv_iconst (v := 2) hx hb dL_law_1330 (by decide) ?_
      refine lv_iadd hx hb dL_law_1331 ?_
      obtain ⟨c1332, hf⟩ := ck_t hf
      refine va_sld hx hb hXs hbl hbA hS (inb_in c1332) dL_law_1332 ?_
      refine lv_aload_n hx hb dL_law_1333 rfl (lv_at hl 3 rfl) ?_
      obtain ⟨q1334, h1334, hf⟩ := bd_t hf
      refine cl_i (vx_runSW (As := [.ref (A 0), .int (xs (x4 + 1).toNatClampNeg), .int (xs (x4 + 2).toNatClampNeg), .ref (A 91)]) (rest := []) S (mL_walk l hfl D cI cZ cJ (aLL_LW_0_1_2_3_4_5_6_8 A) cs cw ct cu cl cb cp co (xs (x4 + 1).toNatClampNeg) (xs (x4 + 2).toNatClampNeg) H.size q1334 h1334) (vx_cwSW 4 hts gL_law_L_walk rfl rfl rfl (by decide +kernel) ⟨Nat.le_of_ble_eq_true rfl, Nat.le_of_ble_eq_true rfl⟩) (xP_S (cutLL_LW_0_1_2_3_4_5_6_8 _ _ _ _ _ _ _ _ _ _ _ _ _ st0 st0 st0 st0 st0 st0 st0 (fun _ => 0)) hP hD hS hA hK hG hX hZ) rfl rfl hl.1 rfl (lv_room (Nat.le_of_ble_eq_true rfl)) dL_law_1334 ⟨by show _ ≤ 1131; omega, by show _ ≤ 22178; omega⟩) (cutLL_LW_0_1_2_3_4_5_6_8 _ _ _ _ _ _ _ _ _ _ _ _ _ _ _ _ _ _ _ _ _) hP hD hS hA (fun H locs hP hD hS => ?_)
      refine lv_istore (lv' := [(5, .int q1334.1), (0, .ref b), (1, .ref (A 0)), (2, .ref (A 53)), (3, .ref (A 91)), (4, .int x4)]) hx hb dL_law_1337 hl (by decide) rfl (fun ls hl => ?_)
      refine lv_aload_n hx hb dL_law_1339 rfl (lv_at hl 3 rfl) ?_
      refine lv_aload_n hx hb dL_law_1340 rfl (lv_at hl 1 rfl) ?_
      refine lv_iload hx hb dL_law_1341 (lv_at hl 5 rfl) ?_
      refine lv_iconst (v := 1) hx hb dL_law_1343 (by decide) ?_
      refine lv_iadd hx hb dL_law_1344 ?_
      obtain ⟨c1345, hf⟩ := ck_t hf
      refine va_sld hx hb hXs hbl hbA hS (inb_in c1345) dL_law_1345 ?_
      refine lv_aload_n hx hb dL_law_1346 rfl (lv_at hl 1 rfl) ?_
      refine lv_iload hx hb dL_law_1347 (lv_at hl 5 rfl) ?_
      refine lv_iconst (v := 2) hx hb dL_law_1349 (by decide) ?_
      refine lv_iadd hx hb dL_law_1350 ?_
      obtain ⟨c1351, hf⟩ := ck_t hf
      refine va_sld hx hb hXs hbl hbA hS (inb_in c1351) dL_law_1351 ?_
      obtain ⟨q1352, h1352, hf⟩ := bd_t hf
      refine cl_i (va_runV (As := [.int (xs (x4 + 1).toNatClampNeg), .int (xs (x4 + 2).toNatClampNeg)]) (rest := []) S (mX6_walk l D cI cZ (aLL_X6_7 A) mm (xs (x4 + 1).toNatClampNeg) (xs (x4 + 2).toNatClampNeg) H.size q1352 h1352) (cwV 2 hts gL_law_X6_walk rfl rfl rfl (by decide +kernel) ⟨Nat.le_of_ble_eq_true rfl, Nat.le_of_ble_eq_true rfl⟩) (mP_V (ci := 6) (cutLL_X6_7 _ _ _ _ _ _ _ _ _ _ _ _ _ st0) hP hD (hK.sub [0, 1] rfl) hG rfl (gX6_0 _ _ _ _)) rfl rfl hl.1 rfl (lv_room (Nat.le_of_ble_eq_true rfl)) dL_law_1352 ⟨by show _ ≤ 1131; omega, by show _ ≤ 22178; omega⟩) (cutLL_X6_7 _ _ _ _ _ _ _ _ _ _ _ _ _ _) hP hD hS hA (fun H locs hP hD hS => ?_)
      refine lv_istore (lv' := [(6, .int q1352.1), (5, .int q1334.1), (0, .ref b), (1, .ref (A 0)), (2, .ref (A 53)), (3, .ref (A 91)), (4, .int x4)]) hx hb dL_law_1355 hl (by decide) rfl (fun ls hl => ?_)
      refine lv_aload_n hx hb dL_law_1357 rfl (lv_at hl 4 rfl) ?_
      obtain ⟨q1358, h1358, hf⟩ := bd_t hf
      refine cl_i (va_runV (As := []) (rest := []) S (mX6_thrown l D cI cZ (aLL_X6_7 A) (q1352.2) H.size q1358 h1358) (cwV 0 hts gL_law_X6_thrown rfl rfl rfl (by decide +kernel) ⟨Nat.le_of_ble_eq_true rfl, Nat.le_of_ble_eq_true rfl⟩) (mP_V (ci := 6) (cutLL_X6_7 _ _ _ _ _ _ _ _ _ _ _ _ _ st0) hP hD (hK.sub [0, 1] rfl) hG rfl (gX6_0 _ _ _ _)) rfl rfl hl.1 rfl (lv_room (Nat.le_of_ble_eq_true rfl)) dL_law_1358 ⟨by show _ ≤ 1131; omega, by show _ ≤ 22178; omega⟩) (cutLL_X6_7 _ _ _ _ _ _ _ _ _ _ _ _ _ _) hP hD hS hA (fun H locs hP hD hS => ?_)
      refine lv_iload hx hb dL_law_1361 (lv_at hl 1 rfl) ?_
      refine lv_icmp_eq (tgt := 1368) hx hb dL_law_1363 (by decide) (fun c1363 => ?_) (fun c1363 => ?_)
      · have hf := if_t c1363 hf
        refine lv_iload hx hb dL_law_1368 (lv_at hl 1 rfl) ?_
        refine lv_if_ne (tgt := 1385) hx hb dL_law_1370 (by decide) (fun c1370 => ?_) (fun c1370 => ?_)
        · have hf := if_f c1370 hf
          refine lv_goto (tgt := 1388) hx hb dL_law_1385 (by decide) ?_
          refine lv_iinc (v := x4 + 6) (lv' := [(4, .int (x4 + 6)), (6, .int q1352.1), (5, .int q1334.1), (0, .ref b), (1, .ref (A 0)), (2, .ref (A 53)), (3, .ref (A 91))]) hx hb dL_law_1388 hl (k := 6) rfl rfl (by decide) rfl (fun ls hl => ?_)
          refine lv_goto (tgt := 23) hx hb dL_law_1391 (by decide) ?_
          refine W.widen (k := c0 + (j + 1)) (n := s0 + 6 * (j + 1)) (by omega) (by omega) ?_
          exact hk23 _ hf (j + 1) (by show x4 + 6 = _; rw [ex4]; exact law_x4 j) hj H locs hP hD hS ls (lv_sub hl [3, 4, 5, 6, 0] rfl)
        · have hf := if_t c1370 hf
          refine lv_aload_n hx hb dL_law_1373 rfl (lv_at hl 5 rfl) ?_
          refine lv_iconst (v := 0) hx hb dL_law_1374 (by decide) ?_
          refine va_lald hx hb hK hP 91 2 (gLL_91 _ _ _ _ _ _ _ _ _ _ _ _ _) rfl (inb_in (by decide)) dL_law_1375 ?_
          refine lv_iload hx hb dL_law_1376 (lv_at hl 0 rfl) ?_
          refine lv_i2l hx hb dL_law_1378 rfl ?_
          refine W.lcmp hx hb dL_law_1379 ?_
          refine lv_if_eq (tgt := 1385) hx hb dL_law_1380 (by decide) (fun c1380 => ?_) (fun c1380 => ?_)
          · have hf := if_t c1380 hf
            refine lv_goto (tgt := 1388) hx hb dL_law_1385 (by decide) ?_
            refine lv_iinc (v := x4 + 6) (lv' := [(4, .int (x4 + 6)), (6, .int q1352.1), (5, .int q1334.1), (0, .ref b), (1, .ref (A 0)), (2, .ref (A 53)), (3, .ref (A 91))]) hx hb dL_law_1388 hl (k := 6) rfl rfl (by decide) rfl (fun ls hl => ?_)
            refine lv_goto (tgt := 23) hx hb dL_law_1391 (by decide) ?_
            refine W.widen (k := c0 + (j + 1)) (n := s0 + 6 * (j + 1)) (by omega) (by omega) ?_
            exact hk23 _ hf (j + 1) (by show x4 + 6 = _; rw [ex4]; exact law_x4 j) hj H locs hP hD hS ls (lv_sub hl [3, 4, 5, 6, 0] rfl)
          · have hf := if_f c1380 hf
            refine lv_iconst (v := 0) hx hb dL_law_1383 (by decide) ?_
            exact absurd (Option.some.inj hf) (by decide)
      · have hf := if_f c1363 hf
        refine lv_iconst (v := 0) hx hb dL_law_1366 (by decide) ?_
        exact absurd (Option.some.inj hf) (by decide)
    have hf := if_f c40_17 hf
    refine lv_tableOut (tgt := 1388) hx hb dL_law_40 (sw_out 0 17 (fun j h1 h2 => ?_)) (by decide) ?_
    · rcases (show j = 0 ∨ j = 1 ∨ j = 2 ∨ j = 3 ∨ j = 4 ∨ j = 5 ∨ j = 6 ∨ j = 7 ∨ j = 8 ∨ j = 9 ∨ j = 10 ∨ j = 11 ∨ j = 12 ∨ j = 13 ∨ j = 14 ∨ j = 15 ∨ j = 16 ∨ j = 17 by omega) with e9 | e9 | e9 | e9 | e9 | e9 | e9 | e9 | e9 | e9 | e9 | e9 | e9 | e9 | e9 | e9 | e9 | e9 <;> subst e9
      · exact fun e => c40_0 (e.trans (by decide))
      · exact fun e => c40_1 (e.trans (by decide))
      · exact fun e => c40_2 (e.trans (by decide))
      · exact fun e => c40_3 (e.trans (by decide))
      · exact fun e => c40_4 (e.trans (by decide))
      · exact fun e => c40_5 (e.trans (by decide))
      · exact fun e => c40_6 (e.trans (by decide))
      · exact fun e => c40_7 (e.trans (by decide))
      · exact fun e => c40_8 (e.trans (by decide))
      · exact fun e => c40_9 (e.trans (by decide))
      · exact fun e => c40_10 (e.trans (by decide))
      · exact fun e => c40_11 (e.trans (by decide))
      · exact fun e => c40_12 (e.trans (by decide))
      · exact fun e => c40_13 (e.trans (by decide))
      · exact fun e => c40_14 (e.trans (by decide))
      · exact fun e => c40_15 (e.trans (by decide))
      · exact fun e => c40_16 (e.trans (by decide))
      · exact fun e => c40_17 (e.trans (by decide))
    refine lv_iinc (v := x4 + 6) (lv' := [(4, .int (x4 + 6)), (0, .ref b), (1, .ref (A 0)), (2, .ref (A 53)), (3, .ref (A 91))]) hx hb dL_law_1388 hl (k := 4) rfl rfl (by decide) rfl (fun ls hl => ?_)
    refine lv_goto (tgt := 23) hx hb dL_law_1391 (by decide) ?_
    refine W.widen (k := c0 + (j + 1)) (n := s0 + 6 * (j + 1)) (by omega) (by omega) ?_
    exact hk23 _ hf (j + 1) (by show x4 + 6 = _; rw [ex4]; exact law_x4 j) hj H locs hP hD hS ls (lv_sub hl [1, 2, 3, 4, 0] rfl)

/-! ===== the law: its calls, one by one (laid by gl.py) ===== -/
section LA
variable {p : Program} {l : Launch} {e : Env} {s : State} {m : MethodId} {args : Array Value} {below : List Frame} {meth : Method} {c : Code} {H : Heap} {locs : List Loc} {cells slots : Nat} {Q : State → Prop}
variable {ls : Array Slot} {D : va_G} {ca : vCA} {g : Nat → Nat} {M : Mem} {b L : Nat} {xs : Nat → Int32}
set_option maxHeartbeats 4000000 in
set_option maxRecDepth 100000 in
theorem lc_house {fu : Nat} (hfu : 2000000 < fu) (hst : l.stackTraces = false) (F : FX p m c code 9 s D ca g RL) (hsc : LSc b L xs s g) (hI : Inv M) (hG : GW D ca g s M H locs) {i : Nat} (hi : i + 5 ≤ L) (hc : cells + 10 ≤ room_1.cells) (hs : slots + 100 ≤ room_1.slots) (hl : lv_has ls 9 (lvs g b i))
    (kk : ∀ (M1 : Mem) (H1 : Heap) (locs1 : List Loc) (ls1 : Array Slot), Inv M1 → GW D ca g s M1 H1 locs1 → lv_has ls1 9 (lvs g b i) → W p l e room_1 s m args below meth c H1 locs1 (cells + 10) (slots + 100) Q (F0 m 1257 ls1 [])) : W p l e room_1 s m args below meth c H locs cells slots Q (F0 m 124 ls []) := by
  obtain ⟨hX, hbl, hbA, hL⟩ := hsc
  have hx := F.1
  have hb := F.2.1
  replace hl : lv_has ls 9 [(0, .ref b), (1, .ref (g 40)), (2, .ref (g 44)), (3, .ref (g 69)), (4, .int (nI i))] := hl
  obtain ⟨M1, k, M2, b1, e1, e2, hk, hb1, hz, hI2⟩ := call_house (fu := fu) (by omega) hI (xs (nI i + 1).toNatClampNeg) (xs (nI i + 2).toNatClampNeg)
  refine lv_aload_n hx hb dL_law_124 rfl (lv_at hl 1 rfl) ?_
  refine lv_aload_n hx hb dL_law_125 rfl (lv_at hl 0 rfl) ?_
  refine lv_iload hx hb dL_law_126 (lv_at hl 4 rfl) ?_
  refine lv_iconst (v := 1) hx hb dL_law_128 (by decide) ?_
  refine lv_iadd hx hb dL_law_129 ?_
  refine va_sld hx hb hX hbl hbA hG.2 (in_at (k := 1) hL (by omega)) dL_law_130 ?_
  refine lv_aload_n hx hb dL_law_131 rfl (lv_at hl 0 rfl) ?_
  refine lv_iload hx hb dL_law_132 (lv_at hl 4 rfl) ?_
  refine lv_iconst (v := 2) hx hb dL_law_134 (by decide) ?_
  refine lv_iadd hx hb dL_law_135 ?_
  refine va_sld hx hb hX hbl hbA hG.2 (in_at (k := 2) hL (by omega)) dL_law_136 ?_
  refine lv_aload_n hx hb dL_law_137 rfl (lv_at hl 3 rfl) ?_
  refine k_i (l_runSH F hG (c_L_house l D ca g hst (a0 := 40) (a3 := 69) rfl rfl e1) (mc := 2) (ms := 12) ⟨rfl, rfl⟩ (kw290 F.kd) (kw291 F.kd) (kw0 F.kd) (kw292 F.kd) yd_L_house ⟨Nat.le_of_ble_eq_true rfl, Nat.le_of_ble_eq_true rfl⟩ rfl hl.1 rfl (Nat.le_of_ble_eq_true rfl) dL_law_138 ⟨hf_of (a := 2) hc (by decide), hf_of (a := 12) hs (by decide)⟩) hG (fun H locs hG => ?_)
  refine lv_istore (lv' := [(5, .int k), (0, .ref b), (1, .ref (g 40)), (2, .ref (g 44)), (3, .ref (g 69)), (4, .int (nI i))]) hx hb dL_law_141 hl (by decide) rfl (fun ls hl => ?_)
  refine lv_aload_n hx hb dL_law_143 rfl (lv_at hl 3 rfl) ?_
  refine lv_aload_n hx hb dL_law_144 rfl (lv_at hl 1 rfl) ?_
  refine lv_iload hx hb dL_law_145 (lv_at hl 5 rfl) ?_
  refine lv_iconst (v := 1) hx hb dL_law_147 (by decide) ?_
  refine lv_iadd hx hb dL_law_148 ?_
  refine va_sld hx hb hX hbl hbA hG.2 (in_at (k := 1) hL (by omega)) dL_law_149 ?_
  refine lv_aload_n hx hb dL_law_150 rfl (lv_at hl 1 rfl) ?_
  refine lv_iload hx hb dL_law_151 (lv_at hl 5 rfl) ?_
  refine lv_iconst (v := 2) hx hb dL_law_153 (by decide) ?_
  refine lv_iadd hx hb dL_law_154 ?_
  refine va_sld hx hb hX hbl hbA hG.2 (in_at (k := 2) hL (by omega)) dL_law_155 ?_
  refine k_i (l_runV F hG (k := 44) (c_X7_house l D ca g (a0 := 44) rfl e2) (mc := 0) (ms := 0) ⟨rfl, rfl⟩ (by decide) (gd7 rfl) rfl (kw721 F.kd) (kw722 F.kd) (kw723 F.kd) (kw7 F.kd) (kw724 F.kd) yd_X7_house ⟨Nat.le_of_ble_eq_true rfl, Nat.le_of_ble_eq_true rfl⟩ rfl hl.1 rfl (Nat.le_of_ble_eq_true rfl) dL_law_156 ⟨hf_of (a := 2) hc (by decide), hf_of (a := 12) hs (by decide)⟩) hG (fun H locs hG => ?_)
  refine lv_istore (lv' := [(6, .int b1), (5, .int k), (0, .ref b), (1, .ref (g 40)), (2, .ref (g 44)), (3, .ref (g 69)), (4, .int (nI i))]) hx hb dL_law_159 hl (by decide) rfl (fun ls hl => ?_)
  refine lv_aload_n hx hb dL_law_161 rfl (lv_at hl 4 rfl) ?_
  refine k_i (l_runV F hG (k := 44) (c_X7_thrown l D ca g (a0 := 44) rfl (fu := fu) (r := M2 44 0) rfl) (mc := 0) (ms := 0) ⟨rfl, rfl⟩ (by decide) (gd7 rfl) rfl (kw717 F.kd) (kw718 F.kd) (kw719 F.kd) (kw7 F.kd) (kw720 F.kd) yd_X7_thrown ⟨Nat.le_of_ble_eq_true rfl, Nat.le_of_ble_eq_true rfl⟩ rfl hl.1 rfl (Nat.le_of_ble_eq_true rfl) dL_law_162 ⟨hf_of (a := 2) hc (by decide), hf_of (a := 12) hs (by decide)⟩) hG (fun H locs hG => ?_)
  refine lv_iload hx hb dL_law_165 (lv_at hl 1 rfl) ?_
  refine lv_icmp_eq (tgt := 172) hx hb dL_law_167 (by decide) (fun _ => ?_) (fun c1 => absurd hk c1)
  refine lv_iload hx hb dL_law_172 (lv_at hl 1 rfl) ?_
  refine lv_if_ne (tgt := 196) hx hb dL_law_174 (by decide) (fun _ => ?_) (fun c2 => ?_)
  · skip
    refine lv_goto (tgt := 1257) hx hb dL_law_196 (by decide) ?_
    refine W.widen (k := cells + 10) (n := slots + 100) (by omega) (by omega) ?_
    exact kk _ _ _ _ hI2 hG (lv_sub hl [2, 3, 4, 5, 6] rfl)
  · skip
    have hb2 := hb1 c2
    refine lv_aload_n hx hb dL_law_177 rfl (lv_at hl 5 rfl) ?_
    refine lv_iconst (v := 0) hx hb dL_law_178 (by decide) ?_
    refine l_lald F hG (k := 69) rfl hb2 dL_law_179 ?_
    refine lv_iload hx hb dL_law_180 (lv_at hl 0 rfl) ?_
    refine lv_if_eq (tgt := 189) hx hb dL_law_182 (by decide) (fun c3 => ?_) (fun c3 => ?_)
    · skip
      subst c3
      refine lv_lconst (v := 0) hx hb dL_law_189 (by decide) ?_
      refine W.lcmp hx hb dL_law_190 ?_
      refine lv_if_eq (tgt := 196) hx hb dL_law_191 (by decide) (fun _ => ?_) (fun c4 => absurd (by decide +kernel) c4)
      refine lv_goto (tgt := 1257) hx hb dL_law_196 (by decide) ?_
      refine W.widen (k := cells + 10) (n := slots + 100) (by omega) (by omega) ?_
      exact kk _ _ _ _ hI2 hG (lv_sub hl [2, 3, 4, 5, 6] rfl)
    · skip
      obtain rfl := (isb_c hz).resolve_left c3
      refine lv_lconst (v := 1) hx hb dL_law_185 (by decide) ?_
      refine lv_goto (tgt := 190) hx hb dL_law_186 (by decide) ?_
      refine W.lcmp hx hb dL_law_190 ?_
      refine lv_if_eq (tgt := 196) hx hb dL_law_191 (by decide) (fun _ => ?_) (fun c4 => absurd (by decide +kernel) c4)
      refine lv_goto (tgt := 1257) hx hb dL_law_196 (by decide) ?_
      refine W.widen (k := cells + 10) (n := slots + 100) (by omega) (by omega) ?_
      exact kk _ _ _ _ hI2 hG (lv_sub hl [2, 3, 4, 5, 6] rfl)
set_option maxHeartbeats 4000000 in
set_option maxRecDepth 100000 in
theorem lc_block {fu : Nat} (hfu : 2000000 < fu) (hst : l.stackTraces = false) (F : FX p m c code 9 s D ca g RL) (hsc : LSc b L xs s g) (hI : Inv M) (hG : GW D ca g s M H locs) {i : Nat} (hi : i + 5 ≤ L) (hc : cells + 10 ≤ room_1.cells) (hs : slots + 100 ≤ room_1.slots) (hl : lv_has ls 9 (lvs g b i))
    (kk : ∀ (M1 : Mem) (H1 : Heap) (locs1 : List Loc) (ls1 : Array Slot), Inv M1 → GW D ca g s M1 H1 locs1 → lv_has ls1 9 (lvs g b i) → W p l e room_1 s m args below meth c H1 locs1 (cells + 10) (slots + 100) Q (F0 m 1257 ls1 [])) : W p l e room_1 s m args below meth c H locs cells slots Q (F0 m 199 ls []) := by
  obtain ⟨hX, hbl, hbA, hL⟩ := hsc
  have hx := F.1
  have hb := F.2.1
  replace hl : lv_has ls 9 [(0, .ref b), (1, .ref (g 40)), (2, .ref (g 44)), (3, .ref (g 69)), (4, .int (nI i))] := hl
  obtain ⟨M1, k, M2, b1, e1, e2, hk, hb1, hI2⟩ := call_block (fu := fu) (by omega) hI (xs (nI i + 1).toNatClampNeg) (xs (nI i + 2).toNatClampNeg) (xs (nI i + 3).toNatClampNeg)
  refine lv_aload_n hx hb dL_law_199 rfl (lv_at hl 1 rfl) ?_
  refine lv_aload_n hx hb dL_law_200 rfl (lv_at hl 0 rfl) ?_
  refine lv_iload hx hb dL_law_201 (lv_at hl 4 rfl) ?_
  refine lv_iconst (v := 1) hx hb dL_law_203 (by decide) ?_
  refine lv_iadd hx hb dL_law_204 ?_
  refine va_sld hx hb hX hbl hbA hG.2 (in_at (k := 1) hL (by omega)) dL_law_205 ?_
  refine lv_aload_n hx hb dL_law_206 rfl (lv_at hl 0 rfl) ?_
  refine lv_iload hx hb dL_law_207 (lv_at hl 4 rfl) ?_
  refine lv_iconst (v := 2) hx hb dL_law_209 (by decide) ?_
  refine lv_iadd hx hb dL_law_210 ?_
  refine va_sld hx hb hX hbl hbA hG.2 (in_at (k := 2) hL (by omega)) dL_law_211 ?_
  refine lv_aload_n hx hb dL_law_212 rfl (lv_at hl 0 rfl) ?_
  refine lv_iload hx hb dL_law_213 (lv_at hl 4 rfl) ?_
  refine lv_iconst (v := 3) hx hb dL_law_215 (by decide) ?_
  refine lv_iadd hx hb dL_law_216 ?_
  refine va_sld hx hb hX hbl hbA hG.2 (in_at (k := 3) hL (by omega)) dL_law_217 ?_
  refine lv_aload_n hx hb dL_law_218 rfl (lv_at hl 3 rfl) ?_
  refine k_i (l_runSH F hG (c_L_block l D ca g hst (a0 := 40) (a4 := 69) rfl rfl e1) (mc := 2) (ms := 12) ⟨rfl, rfl⟩ (kw395 F.kd) (kw396 F.kd) (kw0 F.kd) (kw397 F.kd) yd_L_block ⟨Nat.le_of_ble_eq_true rfl, Nat.le_of_ble_eq_true rfl⟩ rfl hl.1 rfl (Nat.le_of_ble_eq_true rfl) dL_law_219 ⟨hf_of (a := 2) hc (by decide), hf_of (a := 12) hs (by decide)⟩) hG (fun H locs hG => ?_)
  refine lv_istore (lv' := [(5, .int k), (0, .ref b), (1, .ref (g 40)), (2, .ref (g 44)), (3, .ref (g 69)), (4, .int (nI i))]) hx hb dL_law_222 hl (by decide) rfl (fun ls hl => ?_)
  refine lv_aload_n hx hb dL_law_224 rfl (lv_at hl 3 rfl) ?_
  refine lv_aload_n hx hb dL_law_225 rfl (lv_at hl 1 rfl) ?_
  refine lv_iload hx hb dL_law_226 (lv_at hl 5 rfl) ?_
  refine lv_iconst (v := 1) hx hb dL_law_228 (by decide) ?_
  refine lv_iadd hx hb dL_law_229 ?_
  refine va_sld hx hb hX hbl hbA hG.2 (in_at (k := 1) hL (by omega)) dL_law_230 ?_
  refine lv_aload_n hx hb dL_law_231 rfl (lv_at hl 1 rfl) ?_
  refine lv_iload hx hb dL_law_232 (lv_at hl 5 rfl) ?_
  refine lv_iconst (v := 2) hx hb dL_law_234 (by decide) ?_
  refine lv_iadd hx hb dL_law_235 ?_
  refine va_sld hx hb hX hbl hbA hG.2 (in_at (k := 2) hL (by omega)) dL_law_236 ?_
  refine lv_aload_n hx hb dL_law_237 rfl (lv_at hl 1 rfl) ?_
  refine lv_iload hx hb dL_law_238 (lv_at hl 5 rfl) ?_
  refine lv_iconst (v := 3) hx hb dL_law_240 (by decide) ?_
  refine lv_iadd hx hb dL_law_241 ?_
  refine va_sld hx hb hX hbl hbA hG.2 (in_at (k := 3) hL (by omega)) dL_law_242 ?_
  refine k_i (l_runV F hG (k := 44) (c_X7_block l D ca g (a0 := 44) rfl e2) (mc := 0) (ms := 0) ⟨rfl, rfl⟩ (by decide) (gd7 rfl) rfl (kw739 F.kd) (kw740 F.kd) (kw741 F.kd) (kw7 F.kd) (kw742 F.kd) yd_X7_block ⟨Nat.le_of_ble_eq_true rfl, Nat.le_of_ble_eq_true rfl⟩ rfl hl.1 rfl (Nat.le_of_ble_eq_true rfl) dL_law_243 ⟨hf_of (a := 2) hc (by decide), hf_of (a := 12) hs (by decide)⟩) hG (fun H locs hG => ?_)
  refine lv_istore (lv' := [(6, .int b1), (5, .int k), (0, .ref b), (1, .ref (g 40)), (2, .ref (g 44)), (3, .ref (g 69)), (4, .int (nI i))]) hx hb dL_law_246 hl (by decide) rfl (fun ls hl => ?_)
  refine lv_aload_n hx hb dL_law_248 rfl (lv_at hl 4 rfl) ?_
  refine k_i (l_runV F hG (k := 44) (c_X7_thrown l D ca g (a0 := 44) rfl (fu := fu) (r := M2 44 0) rfl) (mc := 0) (ms := 0) ⟨rfl, rfl⟩ (by decide) (gd7 rfl) rfl (kw717 F.kd) (kw718 F.kd) (kw719 F.kd) (kw7 F.kd) (kw720 F.kd) yd_X7_thrown ⟨Nat.le_of_ble_eq_true rfl, Nat.le_of_ble_eq_true rfl⟩ rfl hl.1 rfl (Nat.le_of_ble_eq_true rfl) dL_law_249 ⟨hf_of (a := 2) hc (by decide), hf_of (a := 12) hs (by decide)⟩) hG (fun H locs hG => ?_)
  refine lv_iload hx hb dL_law_252 (lv_at hl 1 rfl) ?_
  refine lv_icmp_eq (tgt := 259) hx hb dL_law_254 (by decide) (fun _ => ?_) (fun c1 => absurd hk c1)
  refine lv_iload hx hb dL_law_259 (lv_at hl 1 rfl) ?_
  refine lv_if_ne (tgt := 276) hx hb dL_law_261 (by decide) (fun _ => ?_) (fun c2 => ?_)
  · skip
    refine lv_goto (tgt := 1257) hx hb dL_law_276 (by decide) ?_
    refine W.widen (k := cells + 10) (n := slots + 100) (by omega) (by omega) ?_
    exact kk _ _ _ _ hI2 hG (lv_sub hl [2, 3, 4, 5, 6] rfl)
  · skip
    have hb2 := hb1 c2
    refine lv_aload_n hx hb dL_law_264 rfl (lv_at hl 5 rfl) ?_
    refine lv_iconst (v := 0) hx hb dL_law_265 (by decide) ?_
    refine l_lald F hG (k := 69) rfl hb2 dL_law_266 ?_
    refine lv_iload hx hb dL_law_267 (lv_at hl 0 rfl) ?_
    refine lv_i2l (v := (b1 : Int32).toInt64) hx hb dL_law_269 rfl ?_
    refine W.lcmp hx hb dL_law_270 ?_
    refine lv_if_eq (tgt := 276) hx hb dL_law_271 (by decide) (fun _ => ?_) (fun c4 => absurd ((lg_cmp_eq _ _).mpr rfl) c4)
    refine lv_goto (tgt := 1257) hx hb dL_law_276 (by decide) ?_
    refine W.widen (k := cells + 10) (n := slots + 100) (by omega) (by omega) ?_
    exact kk _ _ _ _ hI2 hG (lv_sub hl [2, 3, 4, 5, 6] rfl)
set_option maxHeartbeats 4000000 in
set_option maxRecDepth 100000 in
theorem lc_cell {fu : Nat} (hfu : 2000000 < fu) (hst : l.stackTraces = false) (F : FX p m c code 9 s D ca g RL) (hsc : LSc b L xs s g) (hI : Inv M) (hG : GW D ca g s M H locs) {i : Nat} (hi : i + 5 ≤ L) (hc : cells + 10 ≤ room_1.cells) (hs : slots + 100 ≤ room_1.slots) (hl : lv_has ls 9 (lvs g b i))
    (kk : ∀ (M1 : Mem) (H1 : Heap) (locs1 : List Loc) (ls1 : Array Slot), Inv M1 → GW D ca g s M1 H1 locs1 → lv_has ls1 9 (lvs g b i) → W p l e room_1 s m args below meth c H1 locs1 (cells + 10) (slots + 100) Q (F0 m 1257 ls1 [])) : W p l e room_1 s m args below meth c H locs cells slots Q (F0 m 279 ls []) := by
  obtain ⟨hX, hbl, hbA, hL⟩ := hsc
  have hx := F.1
  have hb := F.2.1
  replace hl : lv_has ls 9 [(0, .ref b), (1, .ref (g 40)), (2, .ref (g 44)), (3, .ref (g 69)), (4, .int (nI i))] := hl
  obtain ⟨M1, k, M2, b1, e1, e2, hk, hb1, hI2⟩ := call_cell (fu := fu) hI (xs (nI i + 1).toNatClampNeg) (xs (nI i + 2).toNatClampNeg)
  refine lv_aload_n hx hb dL_law_279 rfl (lv_at hl 1 rfl) ?_
  refine lv_aload_n hx hb dL_law_280 rfl (lv_at hl 0 rfl) ?_
  refine lv_iload hx hb dL_law_281 (lv_at hl 4 rfl) ?_
  refine lv_iconst (v := 1) hx hb dL_law_283 (by decide) ?_
  refine lv_iadd hx hb dL_law_284 ?_
  refine va_sld hx hb hX hbl hbA hG.2 (in_at (k := 1) hL (by omega)) dL_law_285 ?_
  refine lv_aload_n hx hb dL_law_286 rfl (lv_at hl 0 rfl) ?_
  refine lv_iload hx hb dL_law_287 (lv_at hl 4 rfl) ?_
  refine lv_iconst (v := 2) hx hb dL_law_289 (by decide) ?_
  refine lv_iadd hx hb dL_law_290 ?_
  refine va_sld hx hb hX hbl hbA hG.2 (in_at (k := 2) hL (by omega)) dL_law_291 ?_
  refine lv_aload_n hx hb dL_law_292 rfl (lv_at hl 3 rfl) ?_
  refine k_i (l_runSH F hG (c_L_cell l D ca g hst (a0 := 40) (a3 := 69) rfl rfl e1) (mc := 1) (ms := 6) ⟨rfl, rfl⟩ (kw420 F.kd) (kw421 F.kd) (kw0 F.kd) (kw422 F.kd) yd_L_cell ⟨Nat.le_of_ble_eq_true rfl, Nat.le_of_ble_eq_true rfl⟩ rfl hl.1 rfl (Nat.le_of_ble_eq_true rfl) dL_law_293 ⟨hf_of (a := 1) hc (by decide), hf_of (a := 6) hs (by decide)⟩) hG (fun H locs hG => ?_)
  refine lv_istore (lv' := [(5, .int k), (0, .ref b), (1, .ref (g 40)), (2, .ref (g 44)), (3, .ref (g 69)), (4, .int (nI i))]) hx hb dL_law_296 hl (by decide) rfl (fun ls hl => ?_)
  refine lv_aload_n hx hb dL_law_298 rfl (lv_at hl 3 rfl) ?_
  refine lv_aload_n hx hb dL_law_299 rfl (lv_at hl 1 rfl) ?_
  refine lv_iload hx hb dL_law_300 (lv_at hl 5 rfl) ?_
  refine lv_iconst (v := 1) hx hb dL_law_302 (by decide) ?_
  refine lv_iadd hx hb dL_law_303 ?_
  refine va_sld hx hb hX hbl hbA hG.2 (in_at (k := 1) hL (by omega)) dL_law_304 ?_
  refine lv_aload_n hx hb dL_law_305 rfl (lv_at hl 1 rfl) ?_
  refine lv_iload hx hb dL_law_306 (lv_at hl 5 rfl) ?_
  refine lv_iconst (v := 2) hx hb dL_law_308 (by decide) ?_
  refine lv_iadd hx hb dL_law_309 ?_
  refine va_sld hx hb hX hbl hbA hG.2 (in_at (k := 2) hL (by omega)) dL_law_310 ?_
  refine k_i (l_runV F hG (k := 44) (c_X7_cell l D ca g (a0 := 44) rfl e2) (mc := 0) (ms := 0) ⟨rfl, rfl⟩ (by decide) (gd7 rfl) rfl (kw743 F.kd) (kw744 F.kd) (kw745 F.kd) (kw7 F.kd) (kw746 F.kd) yd_X7_cell ⟨Nat.le_of_ble_eq_true rfl, Nat.le_of_ble_eq_true rfl⟩ rfl hl.1 rfl (Nat.le_of_ble_eq_true rfl) dL_law_311 ⟨hf_of (a := 1) hc (by decide), hf_of (a := 6) hs (by decide)⟩) hG (fun H locs hG => ?_)
  refine lv_istore (lv' := [(6, .int b1), (5, .int k), (0, .ref b), (1, .ref (g 40)), (2, .ref (g 44)), (3, .ref (g 69)), (4, .int (nI i))]) hx hb dL_law_314 hl (by decide) rfl (fun ls hl => ?_)
  refine lv_aload_n hx hb dL_law_316 rfl (lv_at hl 4 rfl) ?_
  refine k_i (l_runV F hG (k := 44) (c_X7_thrown l D ca g (a0 := 44) rfl (fu := fu) (r := M2 44 0) rfl) (mc := 0) (ms := 0) ⟨rfl, rfl⟩ (by decide) (gd7 rfl) rfl (kw717 F.kd) (kw718 F.kd) (kw719 F.kd) (kw7 F.kd) (kw720 F.kd) yd_X7_thrown ⟨Nat.le_of_ble_eq_true rfl, Nat.le_of_ble_eq_true rfl⟩ rfl hl.1 rfl (Nat.le_of_ble_eq_true rfl) dL_law_317 ⟨hf_of (a := 1) hc (by decide), hf_of (a := 6) hs (by decide)⟩) hG (fun H locs hG => ?_)
  refine lv_iload hx hb dL_law_320 (lv_at hl 1 rfl) ?_
  refine lv_icmp_eq (tgt := 327) hx hb dL_law_322 (by decide) (fun _ => ?_) (fun c1 => absurd hk c1)
  refine lv_iload hx hb dL_law_327 (lv_at hl 1 rfl) ?_
  refine lv_if_ne (tgt := 344) hx hb dL_law_329 (by decide) (fun _ => ?_) (fun c2 => ?_)
  · skip
    refine lv_goto (tgt := 1257) hx hb dL_law_344 (by decide) ?_
    refine W.widen (k := cells + 10) (n := slots + 100) (by omega) (by omega) ?_
    exact kk _ _ _ _ hI2 hG (lv_sub hl [2, 3, 4, 5, 6] rfl)
  · skip
    have hb2 := hb1 c2
    refine lv_aload_n hx hb dL_law_332 rfl (lv_at hl 5 rfl) ?_
    refine lv_iconst (v := 0) hx hb dL_law_333 (by decide) ?_
    refine l_lald F hG (k := 69) rfl hb2 dL_law_334 ?_
    refine lv_iload hx hb dL_law_335 (lv_at hl 0 rfl) ?_
    refine lv_i2l (v := (b1 : Int32).toInt64) hx hb dL_law_337 rfl ?_
    refine W.lcmp hx hb dL_law_338 ?_
    refine lv_if_eq (tgt := 344) hx hb dL_law_339 (by decide) (fun _ => ?_) (fun c4 => absurd ((lg_cmp_eq _ _).mpr rfl) c4)
    refine lv_goto (tgt := 1257) hx hb dL_law_344 (by decide) ?_
    refine W.widen (k := cells + 10) (n := slots + 100) (by omega) (by omega) ?_
    exact kk _ _ _ _ hI2 hG (lv_sub hl [2, 3, 4, 5, 6] rfl)
set_option maxHeartbeats 4000000 in
set_option maxRecDepth 100000 in
theorem lc_gather {fu : Nat} (hfu : 2000000 < fu) (hst : l.stackTraces = false) (F : FX p m c code 9 s D ca g RL) (hsc : LSc b L xs s g) (hI : Inv M) (hG : GW D ca g s M H locs) {i : Nat} (hi : i + 5 ≤ L) (hc : cells + 10 ≤ room_1.cells) (hs : slots + 100 ≤ room_1.slots) (hl : lv_has ls 9 (lvs g b i))
    (kk : ∀ (M1 : Mem) (H1 : Heap) (locs1 : List Loc) (ls1 : Array Slot), Inv M1 → GW D ca g s M1 H1 locs1 → lv_has ls1 9 (lvs g b i) → W p l e room_1 s m args below meth c H1 locs1 (cells + 10) (slots + 100) Q (F0 m 1257 ls1 [])) : W p l e room_1 s m args below meth c H locs cells slots Q (F0 m 347 ls []) := by
  obtain ⟨hX, hbl, hbA, hL⟩ := hsc
  have hx := F.1
  have hb := F.2.1
  replace hl : lv_has ls 9 [(0, .ref b), (1, .ref (g 40)), (2, .ref (g 44)), (3, .ref (g 69)), (4, .int (nI i))] := hl
  obtain ⟨M1, k, M2, b1, e1, e2, hk, hb1, hI2⟩ := call_gather (fu := fu) (by omega) hI (xs (nI i + 1).toNatClampNeg) (xs (nI i + 2).toNatClampNeg) (xs (nI i + 3).toNatClampNeg)
  refine lv_aload_n hx hb dL_law_347 rfl (lv_at hl 1 rfl) ?_
  refine lv_aload_n hx hb dL_law_348 rfl (lv_at hl 0 rfl) ?_
  refine lv_iload hx hb dL_law_349 (lv_at hl 4 rfl) ?_
  refine lv_iconst (v := 1) hx hb dL_law_351 (by decide) ?_
  refine lv_iadd hx hb dL_law_352 ?_
  refine va_sld hx hb hX hbl hbA hG.2 (in_at (k := 1) hL (by omega)) dL_law_353 ?_
  refine lv_aload_n hx hb dL_law_354 rfl (lv_at hl 0 rfl) ?_
  refine lv_iload hx hb dL_law_355 (lv_at hl 4 rfl) ?_
  refine lv_iconst (v := 2) hx hb dL_law_357 (by decide) ?_
  refine lv_iadd hx hb dL_law_358 ?_
  refine va_sld hx hb hX hbl hbA hG.2 (in_at (k := 2) hL (by omega)) dL_law_359 ?_
  refine lv_aload_n hx hb dL_law_360 rfl (lv_at hl 0 rfl) ?_
  refine lv_iload hx hb dL_law_361 (lv_at hl 4 rfl) ?_
  refine lv_iconst (v := 3) hx hb dL_law_363 (by decide) ?_
  refine lv_iadd hx hb dL_law_364 ?_
  refine va_sld hx hb hX hbl hbA hG.2 (in_at (k := 3) hL (by omega)) dL_law_365 ?_
  refine lv_aload_n hx hb dL_law_366 rfl (lv_at hl 3 rfl) ?_
  refine k_i (l_runSH F hG (c_L_gather l D ca g hst (a0 := 40) (a4 := 69) rfl rfl e1) (mc := 2) (ms := 12) ⟨rfl, rfl⟩ (kw427 F.kd) (kw428 F.kd) (kw0 F.kd) (kw429 F.kd) yd_L_gather ⟨Nat.le_of_ble_eq_true rfl, Nat.le_of_ble_eq_true rfl⟩ rfl hl.1 rfl (Nat.le_of_ble_eq_true rfl) dL_law_367 ⟨hf_of (a := 2) hc (by decide), hf_of (a := 12) hs (by decide)⟩) hG (fun H locs hG => ?_)
  refine lv_istore (lv' := [(5, .int k), (0, .ref b), (1, .ref (g 40)), (2, .ref (g 44)), (3, .ref (g 69)), (4, .int (nI i))]) hx hb dL_law_370 hl (by decide) rfl (fun ls hl => ?_)
  refine lv_aload_n hx hb dL_law_372 rfl (lv_at hl 3 rfl) ?_
  refine lv_aload_n hx hb dL_law_373 rfl (lv_at hl 1 rfl) ?_
  refine lv_iload hx hb dL_law_374 (lv_at hl 5 rfl) ?_
  refine lv_iconst (v := 1) hx hb dL_law_376 (by decide) ?_
  refine lv_iadd hx hb dL_law_377 ?_
  refine va_sld hx hb hX hbl hbA hG.2 (in_at (k := 1) hL (by omega)) dL_law_378 ?_
  refine lv_aload_n hx hb dL_law_379 rfl (lv_at hl 1 rfl) ?_
  refine lv_iload hx hb dL_law_380 (lv_at hl 5 rfl) ?_
  refine lv_iconst (v := 2) hx hb dL_law_382 (by decide) ?_
  refine lv_iadd hx hb dL_law_383 ?_
  refine va_sld hx hb hX hbl hbA hG.2 (in_at (k := 2) hL (by omega)) dL_law_384 ?_
  refine lv_aload_n hx hb dL_law_385 rfl (lv_at hl 1 rfl) ?_
  refine lv_iload hx hb dL_law_386 (lv_at hl 5 rfl) ?_
  refine lv_iconst (v := 3) hx hb dL_law_388 (by decide) ?_
  refine lv_iadd hx hb dL_law_389 ?_
  refine va_sld hx hb hX hbl hbA hG.2 (in_at (k := 3) hL (by omega)) dL_law_390 ?_
  refine k_i (l_runV F hG (k := 44) (c_X7_gather l D ca g (a0 := 44) rfl e2) (mc := 0) (ms := 0) ⟨rfl, rfl⟩ (by decide) (gd7 rfl) rfl (kw747 F.kd) (kw748 F.kd) (kw749 F.kd) (kw7 F.kd) (kw750 F.kd) yd_X7_gather ⟨Nat.le_of_ble_eq_true rfl, Nat.le_of_ble_eq_true rfl⟩ rfl hl.1 rfl (Nat.le_of_ble_eq_true rfl) dL_law_391 ⟨hf_of (a := 2) hc (by decide), hf_of (a := 12) hs (by decide)⟩) hG (fun H locs hG => ?_)
  refine lv_istore (lv' := [(6, .int b1), (5, .int k), (0, .ref b), (1, .ref (g 40)), (2, .ref (g 44)), (3, .ref (g 69)), (4, .int (nI i))]) hx hb dL_law_394 hl (by decide) rfl (fun ls hl => ?_)
  refine lv_aload_n hx hb dL_law_396 rfl (lv_at hl 4 rfl) ?_
  refine k_i (l_runV F hG (k := 44) (c_X7_thrown l D ca g (a0 := 44) rfl (fu := fu) (r := M2 44 0) rfl) (mc := 0) (ms := 0) ⟨rfl, rfl⟩ (by decide) (gd7 rfl) rfl (kw717 F.kd) (kw718 F.kd) (kw719 F.kd) (kw7 F.kd) (kw720 F.kd) yd_X7_thrown ⟨Nat.le_of_ble_eq_true rfl, Nat.le_of_ble_eq_true rfl⟩ rfl hl.1 rfl (Nat.le_of_ble_eq_true rfl) dL_law_397 ⟨hf_of (a := 2) hc (by decide), hf_of (a := 12) hs (by decide)⟩) hG (fun H locs hG => ?_)
  refine lv_iload hx hb dL_law_400 (lv_at hl 1 rfl) ?_
  refine lv_icmp_eq (tgt := 407) hx hb dL_law_402 (by decide) (fun _ => ?_) (fun c1 => absurd hk c1)
  refine lv_iload hx hb dL_law_407 (lv_at hl 1 rfl) ?_
  refine lv_if_ne (tgt := 424) hx hb dL_law_409 (by decide) (fun _ => ?_) (fun c2 => ?_)
  · skip
    refine lv_goto (tgt := 1257) hx hb dL_law_424 (by decide) ?_
    refine W.widen (k := cells + 10) (n := slots + 100) (by omega) (by omega) ?_
    exact kk _ _ _ _ hI2 hG (lv_sub hl [2, 3, 4, 5, 6] rfl)
  · skip
    have hb2 := hb1 c2
    refine lv_aload_n hx hb dL_law_412 rfl (lv_at hl 5 rfl) ?_
    refine lv_iconst (v := 0) hx hb dL_law_413 (by decide) ?_
    refine l_lald F hG (k := 69) rfl hb2 dL_law_414 ?_
    refine lv_iload hx hb dL_law_415 (lv_at hl 0 rfl) ?_
    refine lv_i2l (v := (b1 : Int32).toInt64) hx hb dL_law_417 rfl ?_
    refine W.lcmp hx hb dL_law_418 ?_
    refine lv_if_eq (tgt := 424) hx hb dL_law_419 (by decide) (fun _ => ?_) (fun c4 => absurd ((lg_cmp_eq _ _).mpr rfl) c4)
    refine lv_goto (tgt := 1257) hx hb dL_law_424 (by decide) ?_
    refine W.widen (k := cells + 10) (n := slots + 100) (by omega) (by omega) ?_
    exact kk _ _ _ _ hI2 hG (lv_sub hl [2, 3, 4, 5, 6] rfl)
set_option maxHeartbeats 4000000 in
set_option maxRecDepth 100000 in
theorem lc_order {fu : Nat} (hfu : 2000000 < fu) (hst : l.stackTraces = false) (F : FX p m c code 9 s D ca g RL) (hsc : LSc b L xs s g) (hI : Inv M) (hG : GW D ca g s M H locs) {i : Nat} (hi : i + 5 ≤ L) (hc : cells + 10 ≤ room_1.cells) (hs : slots + 100 ≤ room_1.slots) (hl : lv_has ls 9 (lvs g b i))
    (kk : ∀ (M1 : Mem) (H1 : Heap) (locs1 : List Loc) (ls1 : Array Slot), Inv M1 → GW D ca g s M1 H1 locs1 → lv_has ls1 9 (lvs g b i) → W p l e room_1 s m args below meth c H1 locs1 (cells + 10) (slots + 100) Q (F0 m 1257 ls1 [])) : W p l e room_1 s m args below meth c H locs cells slots Q (F0 m 427 ls []) := by
  obtain ⟨hX, hbl, hbA, hL⟩ := hsc
  have hx := F.1
  have hb := F.2.1
  replace hl : lv_has ls 9 [(0, .ref b), (1, .ref (g 40)), (2, .ref (g 44)), (3, .ref (g 69)), (4, .int (nI i))] := hl
  obtain ⟨M1, k, M2, b1, e1, e2, hk, hb1, hI2⟩ := call_order (fu := fu) (by omega) hI (xs (nI i + 1).toNatClampNeg) (xs (nI i + 2).toNatClampNeg)
  refine lv_aload_n hx hb dL_law_427 rfl (lv_at hl 1 rfl) ?_
  refine lv_aload_n hx hb dL_law_428 rfl (lv_at hl 0 rfl) ?_
  refine lv_iload hx hb dL_law_429 (lv_at hl 4 rfl) ?_
  refine lv_iconst (v := 1) hx hb dL_law_431 (by decide) ?_
  refine lv_iadd hx hb dL_law_432 ?_
  refine va_sld hx hb hX hbl hbA hG.2 (in_at (k := 1) hL (by omega)) dL_law_433 ?_
  refine lv_aload_n hx hb dL_law_434 rfl (lv_at hl 0 rfl) ?_
  refine lv_iload hx hb dL_law_435 (lv_at hl 4 rfl) ?_
  refine lv_iconst (v := 2) hx hb dL_law_437 (by decide) ?_
  refine lv_iadd hx hb dL_law_438 ?_
  refine va_sld hx hb hX hbl hbA hG.2 (in_at (k := 2) hL (by omega)) dL_law_439 ?_
  refine lv_aload_n hx hb dL_law_440 rfl (lv_at hl 3 rfl) ?_
  refine k_i (l_runSH F hG (c_L_order l D ca g hst (a0 := 40) (a3 := 69) rfl rfl e1) (mc := 2) (ms := 12) ⟨rfl, rfl⟩ (kw441 F.kd) (kw442 F.kd) (kw0 F.kd) (kw443 F.kd) yd_L_order ⟨Nat.le_of_ble_eq_true rfl, Nat.le_of_ble_eq_true rfl⟩ rfl hl.1 rfl (Nat.le_of_ble_eq_true rfl) dL_law_441 ⟨hf_of (a := 2) hc (by decide), hf_of (a := 12) hs (by decide)⟩) hG (fun H locs hG => ?_)
  refine lv_istore (lv' := [(5, .int k), (0, .ref b), (1, .ref (g 40)), (2, .ref (g 44)), (3, .ref (g 69)), (4, .int (nI i))]) hx hb dL_law_444 hl (by decide) rfl (fun ls hl => ?_)
  refine lv_aload_n hx hb dL_law_446 rfl (lv_at hl 3 rfl) ?_
  refine lv_aload_n hx hb dL_law_447 rfl (lv_at hl 1 rfl) ?_
  refine lv_iload hx hb dL_law_448 (lv_at hl 5 rfl) ?_
  refine lv_iconst (v := 1) hx hb dL_law_450 (by decide) ?_
  refine lv_iadd hx hb dL_law_451 ?_
  refine va_sld hx hb hX hbl hbA hG.2 (in_at (k := 1) hL (by omega)) dL_law_452 ?_
  refine lv_aload_n hx hb dL_law_453 rfl (lv_at hl 1 rfl) ?_
  refine lv_iload hx hb dL_law_454 (lv_at hl 5 rfl) ?_
  refine lv_iconst (v := 2) hx hb dL_law_456 (by decide) ?_
  refine lv_iadd hx hb dL_law_457 ?_
  refine va_sld hx hb hX hbl hbA hG.2 (in_at (k := 2) hL (by omega)) dL_law_458 ?_
  refine k_i (l_runV F hG (k := 44) (c_X7_order l D ca g (a0 := 44) rfl e2) (mc := 0) (ms := 0) ⟨rfl, rfl⟩ (by decide) (gd7 rfl) rfl (kw751 F.kd) (kw752 F.kd) (kw753 F.kd) (kw7 F.kd) (kw754 F.kd) yd_X7_order ⟨Nat.le_of_ble_eq_true rfl, Nat.le_of_ble_eq_true rfl⟩ rfl hl.1 rfl (Nat.le_of_ble_eq_true rfl) dL_law_459 ⟨hf_of (a := 2) hc (by decide), hf_of (a := 12) hs (by decide)⟩) hG (fun H locs hG => ?_)
  refine lv_istore (lv' := [(6, .int b1), (5, .int k), (0, .ref b), (1, .ref (g 40)), (2, .ref (g 44)), (3, .ref (g 69)), (4, .int (nI i))]) hx hb dL_law_462 hl (by decide) rfl (fun ls hl => ?_)
  refine lv_aload_n hx hb dL_law_464 rfl (lv_at hl 4 rfl) ?_
  refine k_i (l_runV F hG (k := 44) (c_X7_thrown l D ca g (a0 := 44) rfl (fu := fu) (r := M2 44 0) rfl) (mc := 0) (ms := 0) ⟨rfl, rfl⟩ (by decide) (gd7 rfl) rfl (kw717 F.kd) (kw718 F.kd) (kw719 F.kd) (kw7 F.kd) (kw720 F.kd) yd_X7_thrown ⟨Nat.le_of_ble_eq_true rfl, Nat.le_of_ble_eq_true rfl⟩ rfl hl.1 rfl (Nat.le_of_ble_eq_true rfl) dL_law_465 ⟨hf_of (a := 2) hc (by decide), hf_of (a := 12) hs (by decide)⟩) hG (fun H locs hG => ?_)
  refine lv_iload hx hb dL_law_468 (lv_at hl 1 rfl) ?_
  refine lv_icmp_eq (tgt := 475) hx hb dL_law_470 (by decide) (fun _ => ?_) (fun c1 => absurd hk c1)
  refine lv_iload hx hb dL_law_475 (lv_at hl 1 rfl) ?_
  refine lv_if_ne (tgt := 492) hx hb dL_law_477 (by decide) (fun _ => ?_) (fun c2 => ?_)
  · skip
    refine lv_goto (tgt := 1257) hx hb dL_law_492 (by decide) ?_
    refine W.widen (k := cells + 10) (n := slots + 100) (by omega) (by omega) ?_
    exact kk _ _ _ _ hI2 hG (lv_sub hl [2, 3, 4, 5, 6] rfl)
  · skip
    have hb2 := hb1 c2
    refine lv_aload_n hx hb dL_law_480 rfl (lv_at hl 5 rfl) ?_
    refine lv_iconst (v := 0) hx hb dL_law_481 (by decide) ?_
    refine l_lald F hG (k := 69) rfl hb2 dL_law_482 ?_
    refine lv_iload hx hb dL_law_483 (lv_at hl 0 rfl) ?_
    refine lv_i2l (v := (b1 : Int32).toInt64) hx hb dL_law_485 rfl ?_
    refine W.lcmp hx hb dL_law_486 ?_
    refine lv_if_eq (tgt := 492) hx hb dL_law_487 (by decide) (fun _ => ?_) (fun c4 => absurd ((lg_cmp_eq _ _).mpr rfl) c4)
    refine lv_goto (tgt := 1257) hx hb dL_law_492 (by decide) ?_
    refine W.widen (k := cells + 10) (n := slots + 100) (by omega) (by omega) ?_
    exact kk _ _ _ _ hI2 hG (lv_sub hl [2, 3, 4, 5, 6] rfl)
set_option maxHeartbeats 4000000 in
set_option maxRecDepth 100000 in
theorem lc_torch {fu : Nat} (hfu : 2000000 < fu) (hst : l.stackTraces = false) (F : FX p m c code 9 s D ca g RL) (hsc : LSc b L xs s g) (hI : Inv M) (hG : GW D ca g s M H locs) {i : Nat} (hi : i + 5 ≤ L) (hc : cells + 10 ≤ room_1.cells) (hs : slots + 100 ≤ room_1.slots) (hl : lv_has ls 9 (lvs g b i))
    (kk : ∀ (M1 : Mem) (H1 : Heap) (locs1 : List Loc) (ls1 : Array Slot), Inv M1 → GW D ca g s M1 H1 locs1 → lv_has ls1 9 (lvs g b i) → W p l e room_1 s m args below meth c H1 locs1 (cells + 10) (slots + 100) Q (F0 m 1257 ls1 [])) : W p l e room_1 s m args below meth c H locs cells slots Q (F0 m 495 ls []) := by
  obtain ⟨hX, hbl, hbA, hL⟩ := hsc
  have hx := F.1
  have hb := F.2.1
  replace hl : lv_has ls 9 [(0, .ref b), (1, .ref (g 40)), (2, .ref (g 44)), (3, .ref (g 69)), (4, .int (nI i))] := hl
  obtain ⟨M1, k, M2, b1, e1, e2, hk, hb1, hz, hI2⟩ := call_torch (fu := fu) hI (xs (nI i + 1).toNatClampNeg)
  refine lv_aload_n hx hb dL_law_495 rfl (lv_at hl 1 rfl) ?_
  refine lv_aload_n hx hb dL_law_496 rfl (lv_at hl 0 rfl) ?_
  refine lv_iload hx hb dL_law_497 (lv_at hl 4 rfl) ?_
  refine lv_iconst (v := 1) hx hb dL_law_499 (by decide) ?_
  refine lv_iadd hx hb dL_law_500 ?_
  refine va_sld hx hb hX hbl hbA hG.2 (in_at (k := 1) hL (by omega)) dL_law_501 ?_
  refine lv_aload_n hx hb dL_law_502 rfl (lv_at hl 3 rfl) ?_
  refine k_i (l_runSH F hG (c_L_torch l D ca g hst (a0 := 40) (a2 := 69) rfl rfl e1) (mc := 2) (ms := 12) ⟨rfl, rfl⟩ (kw460 F.kd) (kw461 F.kd) (kw0 F.kd) (kw462 F.kd) yd_L_torch ⟨Nat.le_of_ble_eq_true rfl, Nat.le_of_ble_eq_true rfl⟩ rfl hl.1 rfl (Nat.le_of_ble_eq_true rfl) dL_law_503 ⟨hf_of (a := 2) hc (by decide), hf_of (a := 12) hs (by decide)⟩) hG (fun H locs hG => ?_)
  refine lv_istore (lv' := [(5, .int k), (0, .ref b), (1, .ref (g 40)), (2, .ref (g 44)), (3, .ref (g 69)), (4, .int (nI i))]) hx hb dL_law_506 hl (by decide) rfl (fun ls hl => ?_)
  refine lv_aload_n hx hb dL_law_508 rfl (lv_at hl 3 rfl) ?_
  refine lv_aload_n hx hb dL_law_509 rfl (lv_at hl 1 rfl) ?_
  refine lv_iload hx hb dL_law_510 (lv_at hl 5 rfl) ?_
  refine lv_iconst (v := 1) hx hb dL_law_512 (by decide) ?_
  refine lv_iadd hx hb dL_law_513 ?_
  refine va_sld hx hb hX hbl hbA hG.2 (in_at (k := 1) hL (by omega)) dL_law_514 ?_
  refine k_i (l_runV F hG (k := 44) (c_X7_torch l D ca g (a0 := 44) rfl e2) (mc := 0) (ms := 0) ⟨rfl, rfl⟩ (by decide) (gd7 rfl) rfl (kw759 F.kd) (kw760 F.kd) (kw761 F.kd) (kw7 F.kd) (kw762 F.kd) yd_X7_torch ⟨Nat.le_of_ble_eq_true rfl, Nat.le_of_ble_eq_true rfl⟩ rfl hl.1 rfl (Nat.le_of_ble_eq_true rfl) dL_law_515 ⟨hf_of (a := 2) hc (by decide), hf_of (a := 12) hs (by decide)⟩) hG (fun H locs hG => ?_)
  refine lv_istore (lv' := [(6, .int b1), (5, .int k), (0, .ref b), (1, .ref (g 40)), (2, .ref (g 44)), (3, .ref (g 69)), (4, .int (nI i))]) hx hb dL_law_518 hl (by decide) rfl (fun ls hl => ?_)
  refine lv_aload_n hx hb dL_law_520 rfl (lv_at hl 4 rfl) ?_
  refine k_i (l_runV F hG (k := 44) (c_X7_thrown l D ca g (a0 := 44) rfl (fu := fu) (r := M2 44 0) rfl) (mc := 0) (ms := 0) ⟨rfl, rfl⟩ (by decide) (gd7 rfl) rfl (kw717 F.kd) (kw718 F.kd) (kw719 F.kd) (kw7 F.kd) (kw720 F.kd) yd_X7_thrown ⟨Nat.le_of_ble_eq_true rfl, Nat.le_of_ble_eq_true rfl⟩ rfl hl.1 rfl (Nat.le_of_ble_eq_true rfl) dL_law_521 ⟨hf_of (a := 2) hc (by decide), hf_of (a := 12) hs (by decide)⟩) hG (fun H locs hG => ?_)
  refine lv_iload hx hb dL_law_524 (lv_at hl 1 rfl) ?_
  refine lv_icmp_eq (tgt := 531) hx hb dL_law_526 (by decide) (fun _ => ?_) (fun c1 => absurd hk c1)
  refine lv_iload hx hb dL_law_531 (lv_at hl 1 rfl) ?_
  refine lv_if_ne (tgt := 555) hx hb dL_law_533 (by decide) (fun _ => ?_) (fun c2 => ?_)
  · skip
    refine lv_goto (tgt := 1257) hx hb dL_law_555 (by decide) ?_
    refine W.widen (k := cells + 10) (n := slots + 100) (by omega) (by omega) ?_
    exact kk _ _ _ _ hI2 hG (lv_sub hl [2, 3, 4, 5, 6] rfl)
  · skip
    have hb2 := hb1 c2
    refine lv_aload_n hx hb dL_law_536 rfl (lv_at hl 5 rfl) ?_
    refine lv_iconst (v := 0) hx hb dL_law_537 (by decide) ?_
    refine l_lald F hG (k := 69) rfl hb2 dL_law_538 ?_
    refine lv_iload hx hb dL_law_539 (lv_at hl 0 rfl) ?_
    refine lv_if_eq (tgt := 548) hx hb dL_law_541 (by decide) (fun c3 => ?_) (fun c3 => ?_)
    · skip
      subst c3
      refine lv_lconst (v := 0) hx hb dL_law_548 (by decide) ?_
      refine W.lcmp hx hb dL_law_549 ?_
      refine lv_if_eq (tgt := 555) hx hb dL_law_550 (by decide) (fun _ => ?_) (fun c4 => absurd (by decide +kernel) c4)
      refine lv_goto (tgt := 1257) hx hb dL_law_555 (by decide) ?_
      refine W.widen (k := cells + 10) (n := slots + 100) (by omega) (by omega) ?_
      exact kk _ _ _ _ hI2 hG (lv_sub hl [2, 3, 4, 5, 6] rfl)
    · skip
      obtain rfl := (isb_c hz).resolve_left c3
      refine lv_lconst (v := 1) hx hb dL_law_544 (by decide) ?_
      refine lv_goto (tgt := 549) hx hb dL_law_545 (by decide) ?_
      refine W.lcmp hx hb dL_law_549 ?_
      refine lv_if_eq (tgt := 555) hx hb dL_law_550 (by decide) (fun _ => ?_) (fun c4 => absurd (by decide +kernel) c4)
      refine lv_goto (tgt := 1257) hx hb dL_law_555 (by decide) ?_
      refine W.widen (k := cells + 10) (n := slots + 100) (by omega) (by omega) ?_
      exact kk _ _ _ _ hI2 hG (lv_sub hl [2, 3, 4, 5, 6] rfl)
end LA

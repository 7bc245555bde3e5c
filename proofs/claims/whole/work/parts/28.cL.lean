set_option maxHeartbeats 4000000 in
set_option maxRecDepth 100000 in
theorem c_L_house (l : Launch) (D : va_G) (ca : vCA) (g : Nat → Nat) (hst : l.stackTraces = false) {fu : Nat} {M : Mem} {a0 : Nat} {x1 : Int32} {x2 : Int32} {a3 : Nat} {M' : Mem} {r : Int32} (ha0 : kd a0 = 5) (ha3 : kd a3 = 11) (h : m_L_house fu M a0 x1 x2 a3 = some (M', r)) : cMH l yL_house cL_house 5 (some .int) [(0, 17, 20, 13), (0, 17, 24, 15)] { frames := 8, cells := 2, slots := 12, locals := 136 } D ca g M [.ref (g a0), .int x1, .int x2, .ref (g a3)] (fun sz => cQi D ca g sz M' r) := by
  refine mk_MetH (by decide) (Nat.le_of_ble_eq_true rfl) ?_
  intro p e s m below meth c F hr hlk htab hG ls hl
  have hx := F.1
  have hb := F.2.1
  replace hl : lv_has ls 5 [(0, .ref (g a0)), (1, .int x1), (2, .int x2), (3, .ref (g a3))] := hl
  unfold m_L_house at h
  refine lv_aload_n hx hb dL_house_0 rfl (lv_at hl 3 rfl) ?_
  refine lv_iconst (v := 0) hx hb dL_house_1 (by decide) ?_
  refine lv_aload_n hx hb dL_house_2 rfl (lv_at hl 0 rfl) ?_
  refine lv_iload_n hx hb dL_house_3 rfl (lv_at hl 1 rfl) ?_
  refine lv_iload_n hx hb dL_house_4 rfl (lv_at hl 2 rfl) ?_
  obtain ⟨o6, hc5, hL7, hR8⟩ := lb_e h
  refine kl_i (x_runV F hG (c_X5_house l D ca g hst ha0 hc5) (kd_lt ha0 (by decide)) (gd5 ha0) rfl (kw295 F.kd) (kw296 F.kd) (kw297 F.kd) (kw1 F.kd) (kw298 F.kd) yd_X5_house ⟨Nat.le_of_ble_eq_true rfl, Nat.le_of_ble_eq_true rfl⟩ rfl hl.1 rfl (Nat.le_of_ble_eq_true rfl) dL_house_5 ⟨Nat.le_of_ble_eq_true rfl, Nat.le_of_ble_eq_true rfl⟩) hG (fun k11 H locs q ce eo9 hG hce hcv hcl => ?_) (fun M13 r10 H locs eo9 hG => ?_)
  · have h := hL7 _ eo9
    by_cases c12 : k11 = 1
    · have h := ite_t h c12
      subst c12
      refine vx_catch (own := RL) (name := xI) (E := xI) F.2.2.2.1 (tableOf []) _ (tableOf [(0, 17, 24, 15)]) htab (fun z hz => nomatch hz) (by decide) (by decide) (kw293 F.kd) (kw304 F.kd) hce hcv hcl ?_
      refine lv_astore (lv' := [(4, .ref q), (0, .ref (g a0)), (1, .int x1), (2, .int x2), (3, .ref (g a3))]) hx hb dL_house_20 hl (by decide) rfl (fun ls hl => ?_)
      refine lv_iconst (v := 1) hx hb dL_house_22 (by decide) ?_
      obtain ⟨rfl, rfl⟩ := som2 h
      exact W.widen (k := 2) (n := 12) (Nat.le_of_ble_eq_true rfl) (Nat.le_of_ble_eq_true rfl) (end_i F hr hlk hG dL_house_23)
    have h := ite_f h c12
    by_cases c12 : k11 = 2
    · have h := ite_t h c12
      subst c12
      refine vx_catch (own := RL) (name := xS) (E := xS) F.2.2.2.1 (tableOf [(0, 17, 20, 13)]) _ (tableOf []) htab (fun z hz => by
          rcases List.mem_cons.mp hz with rfl | hz
          · exact Or.inr ⟨by decide, xI, kw293 F.kd, F.kx.2.2.2.1 (xS, xI) (by decide)⟩
          exact absurd hz List.not_mem_nil) (by decide) (by decide) (kw294 F.kd) (kw377 F.kd) hce hcv hcl ?_
      refine lv_astore (lv' := [(4, .ref q), (0, .ref (g a0)), (1, .int x1), (2, .int x2), (3, .ref (g a3))]) hx hb dL_house_24 hl (by decide) rfl (fun ls hl => ?_)
      refine lv_iconst (v := 2) hx hb dL_house_26 (by decide) ?_
      obtain ⟨rfl, rfl⟩ := som2 h
      exact W.widen (k := 2) (n := 12) (Nat.le_of_ble_eq_true rfl) (Nat.le_of_ble_eq_true rfl) (end_i F hr hlk hG dL_house_27)
    have h := ite_f h c12
    cases h
  · have h := hR8 _ eo9
    have h := up2_e h
    refine lv_if_eq (tgt := 15) hx hb dL_house_8 (by decide) (fun c14 => ?_) (fun c14 => ?_)
    · have h := ite_t h c14
      refine lv_lconst (v := 0) hx hb dL_house_15 (by decide) ?_
      obtain ⟨M15, eM15, h⟩ := mlet_e h
      refine r_last F hG ha3 (x := 0) (by decide) eM15 dL_house_16 (fun H locs hG => ?_)
      refine lv_goto (tgt := 28) hx hb dL_house_17 (by decide) ?_
      refine lv_iconst (v := 0) hx hb dL_house_28 (by decide) ?_
      obtain ⟨rfl, rfl⟩ := som2 h
      exact W.widen (k := 2) (n := 12) (Nat.le_of_ble_eq_true rfl) (Nat.le_of_ble_eq_true rfl) (end_i F hr hlk hG dL_house_29)
    · have h := ite_f h c14
      refine lv_lconst (v := 1) hx hb dL_house_11 (by decide) ?_
      refine lv_goto (tgt := 16) hx hb dL_house_12 (by decide) ?_
      obtain ⟨M16, eM16, h⟩ := mlet_e h
      refine r_last F hG ha3 (x := 1) (by decide) eM16 dL_house_16 (fun H locs hG => ?_)
      refine lv_goto (tgt := 28) hx hb dL_house_17 (by decide) ?_
      refine lv_iconst (v := 0) hx hb dL_house_28 (by decide) ?_
      obtain ⟨rfl, rfl⟩ := som2 h
      exact W.widen (k := 2) (n := 12) (Nat.le_of_ble_eq_true rfl) (Nat.le_of_ble_eq_true rfl) (end_i F hr hlk hG dL_house_29)
set_option maxHeartbeats 4000000 in
set_option maxRecDepth 100000 in
theorem c_L_block (l : Launch) (D : va_G) (ca : vCA) (g : Nat → Nat) (hst : l.stackTraces = false) {fu : Nat} {M : Mem} {a0 : Nat} {x1 : Int32} {x2 : Int32} {x3 : Int32} {a4 : Nat} {M' : Mem} {r : Int32} (ha0 : kd a0 = 5) (ha4 : kd a4 = 11) (h : m_L_block fu M a0 x1 x2 x3 a4 = some (M', r)) : cMH l yL_block cL_block 6 (some .int) [(0, 12, 15, 13), (0, 12, 19, 21), (0, 12, 23, 15)] { frames := 8, cells := 2, slots := 12, locals := 136 } D ca g M [.ref (g a0), .int x1, .int x2, .int x3, .ref (g a4)] (fun sz => cQi D ca g sz M' r) := by
  refine mk_MetH (by decide) (Nat.le_of_ble_eq_true rfl) ?_
  intro p e s m below meth c F hr hlk htab hG ls hl
  have hx := F.1
  have hb := F.2.1
  replace hl : lv_has ls 6 [(0, .ref (g a0)), (1, .int x1), (2, .int x2), (3, .int x3), (4, .ref (g a4))] := hl
  unfold m_L_block at h
  refine lv_aload hx hb dL_block_0 (lv_at hl 4 rfl) ?_
  refine lv_iconst (v := 0) hx hb dL_block_2 (by decide) ?_
  refine lv_aload_n hx hb dL_block_3 rfl (lv_at hl 0 rfl) ?_
  refine lv_iload_n hx hb dL_block_4 rfl (lv_at hl 1 rfl) ?_
  refine lv_iload_n hx hb dL_block_5 rfl (lv_at hl 2 rfl) ?_
  refine lv_iload_n hx hb dL_block_6 rfl (lv_at hl 3 rfl) ?_
  obtain ⟨o7, hc6, hL8, hR9⟩ := lb_e h
  refine kl_i (x_runV F hG (c_X5_block l D ca g hst ha0 hc6) (kd_lt ha0 (by decide)) (gd5 ha0) rfl (kw399 F.kd) (kw400 F.kd) (kw401 F.kd) (kw1 F.kd) (kw402 F.kd) yd_X5_block ⟨Nat.le_of_ble_eq_true rfl, Nat.le_of_ble_eq_true rfl⟩ rfl hl.1 rfl (Nat.le_of_ble_eq_true rfl) dL_block_7 ⟨Nat.le_of_ble_eq_true rfl, Nat.le_of_ble_eq_true rfl⟩) hG (fun k12 H locs q ce eo10 hG hce hcv hcl => ?_) (fun M14 r11 H locs eo10 hG => ?_)
  · have h := hL8 _ eo10
    by_cases c13 : k12 = 1
    · have h := ite_t h c13
      subst c13
      refine vx_catch (own := RL) (name := xI) (E := xI) F.2.2.2.1 (tableOf []) _ (tableOf [(0, 12, 19, 21), (0, 12, 23, 15)]) htab (fun z hz => nomatch hz) (by decide) (by decide) (kw293 F.kd) (kw304 F.kd) hce hcv hcl ?_
      refine lv_astore (lv' := [(5, .ref q), (0, .ref (g a0)), (1, .int x1), (2, .int x2), (3, .int x3), (4, .ref (g a4))]) hx hb dL_block_15 hl (by decide) rfl (fun ls hl => ?_)
      refine lv_iconst (v := 1) hx hb dL_block_17 (by decide) ?_
      obtain ⟨rfl, rfl⟩ := som2 h
      exact W.widen (k := 2) (n := 12) (Nat.le_of_ble_eq_true rfl) (Nat.le_of_ble_eq_true rfl) (end_i F hr hlk hG dL_block_18)
    have h := ite_f h c13
    by_cases c13 : k12 = 3
    · have h := ite_t h c13
      subst c13
      refine vx_catch (own := RL) (name := xA) (E := xA) F.2.2.2.1 (tableOf [(0, 12, 15, 13)]) _ (tableOf [(0, 12, 23, 15)]) htab (fun z hz => by
          rcases List.mem_cons.mp hz with rfl | hz
          · exact Or.inr ⟨by decide, xI, kw293 F.kd, F.kx.2.2.2.1 (xA, xI) (by decide)⟩
          exact absurd hz List.not_mem_nil) (by decide) (by decide) (kw398 F.kd) (kw405 F.kd) hce hcv hcl ?_
      refine lv_astore (lv' := [(5, .ref q), (0, .ref (g a0)), (1, .int x1), (2, .int x2), (3, .int x3), (4, .ref (g a4))]) hx hb dL_block_19 hl (by decide) rfl (fun ls hl => ?_)
      refine lv_iconst (v := 2) hx hb dL_block_21 (by decide) ?_
      obtain ⟨rfl, rfl⟩ := som2 h
      exact W.widen (k := 2) (n := 12) (Nat.le_of_ble_eq_true rfl) (Nat.le_of_ble_eq_true rfl) (end_i F hr hlk hG dL_block_22)
    have h := ite_f h c13
    by_cases c13 : k12 = 2
    · have h := ite_t h c13
      subst c13
      refine vx_catch (own := RL) (name := xS) (E := xS) F.2.2.2.1 (tableOf [(0, 12, 15, 13), (0, 12, 19, 21)]) _ (tableOf []) htab (fun z hz => by
          rcases List.mem_cons.mp hz with rfl | hz
          · exact Or.inr ⟨by decide, xI, kw293 F.kd, F.kx.2.2.2.1 (xS, xI) (by decide)⟩
          rcases List.mem_cons.mp hz with rfl | hz
          · exact Or.inr ⟨by decide, xA, kw398 F.kd, F.kx.2.2.2.1 (xS, xA) (by decide)⟩
          exact absurd hz List.not_mem_nil) (by decide) (by decide) (kw294 F.kd) (kw377 F.kd) hce hcv hcl ?_
      refine lv_astore (lv' := [(5, .ref q), (0, .ref (g a0)), (1, .int x1), (2, .int x2), (3, .int x3), (4, .ref (g a4))]) hx hb dL_block_23 hl (by decide) rfl (fun ls hl => ?_)
      refine lv_iconst (v := 3) hx hb dL_block_25 (by decide) ?_
      obtain ⟨rfl, rfl⟩ := som2 h
      exact W.widen (k := 2) (n := 12) (Nat.le_of_ble_eq_true rfl) (Nat.le_of_ble_eq_true rfl) (end_i F hr hlk hG dL_block_26)
    have h := ite_f h c13
    cases h
  · have h := hR9 _ eo10
    have h := up2_e h
    refine lv_i2l (v := (r11 : Int32).toInt64) hx hb dL_block_10 rfl ?_
    obtain ⟨M15, eM15, h⟩ := mlet_e h
    refine r_last F hG ha4 (x := r11) rfl eM15 dL_block_11 (fun H locs hG => ?_)
    refine lv_goto (tgt := 27) hx hb dL_block_12 (by decide) ?_
    refine lv_iconst (v := 0) hx hb dL_block_27 (by decide) ?_
    obtain ⟨rfl, rfl⟩ := som2 h
    exact W.widen (k := 2) (n := 12) (Nat.le_of_ble_eq_true rfl) (Nat.le_of_ble_eq_true rfl) (end_i F hr hlk hG dL_block_28)
set_option maxHeartbeats 4000000 in
set_option maxRecDepth 100000 in
theorem c_L_cell (l : Launch) (D : va_G) (ca : vCA) (g : Nat → Nat) (hst : l.stackTraces = false) {fu : Nat} {M : Mem} {a0 : Nat} {x1 : Int32} {x2 : Int32} {a3 : Nat} {M' : Mem} {r : Int32} (ha0 : kd a0 = 5) (ha3 : kd a3 = 11) (h : m_L_cell fu M a0 x1 x2 a3 = some (M', r)) : cMH l yL_cell cL_cell 5 (some .int) [(0, 10, 13, 13)] { frames := 8, cells := 1, slots := 6, locals := 133 } D ca g M [.ref (g a0), .int x1, .int x2, .ref (g a3)] (fun sz => cQi D ca g sz M' r) := by
  refine mk_MetH (by decide) (Nat.le_of_ble_eq_true rfl) ?_
  intro p e s m below meth c F hr hlk htab hG ls hl
  have hx := F.1
  have hb := F.2.1
  replace hl : lv_has ls 5 [(0, .ref (g a0)), (1, .int x1), (2, .int x2), (3, .ref (g a3))] := hl
  unfold m_L_cell at h
  refine lv_aload_n hx hb dL_cell_0 rfl (lv_at hl 3 rfl) ?_
  refine lv_iconst (v := 0) hx hb dL_cell_1 (by decide) ?_
  refine lv_aload_n hx hb dL_cell_2 rfl (lv_at hl 0 rfl) ?_
  refine lv_iload_n hx hb dL_cell_3 rfl (lv_at hl 1 rfl) ?_
  refine lv_iload_n hx hb dL_cell_4 rfl (lv_at hl 2 rfl) ?_
  obtain ⟨o6, hc5, hL7, hR8⟩ := lb_e h
  refine kl_p (x_runV F hG (c_X5_cell l D ca g hst ha0 hc5) (kd_lt ha0 (by decide)) (gd5 ha0) rfl (kw423 F.kd) (kw424 F.kd) (kw425 F.kd) (kw1 F.kd) (kw426 F.kd) yd_X5_cell ⟨Nat.le_of_ble_eq_true rfl, Nat.le_of_ble_eq_true rfl⟩ rfl hl.1 rfl (Nat.le_of_ble_eq_true rfl) dL_cell_5 ⟨Nat.le_of_ble_eq_true rfl, Nat.le_of_ble_eq_true rfl⟩) hG (fun k11 H locs q ce eo9 hG hce hcv hcl => ?_) (fun r10 H locs eo9 hG => ?_)
  · have h := hL7 _ eo9
    by_cases c12 : k11 = 1
    · have h := ite_t h c12
      subst c12
      refine vx_catch (own := RL) (name := xI) (E := xI) F.2.2.2.1 (tableOf []) _ (tableOf []) htab (fun z hz => nomatch hz) (by decide) (by decide) (kw293 F.kd) (kw304 F.kd) hce hcv hcl ?_
      refine lv_astore (lv' := [(4, .ref q), (0, .ref (g a0)), (1, .int x1), (2, .int x2), (3, .ref (g a3))]) hx hb dL_cell_13 hl (by decide) rfl (fun ls hl => ?_)
      refine lv_iconst (v := 1) hx hb dL_cell_15 (by decide) ?_
      obtain ⟨rfl, rfl⟩ := som2 h
      exact W.widen (k := 1) (n := 6) (Nat.le_of_ble_eq_true rfl) (Nat.le_of_ble_eq_true rfl) (end_i F hr hlk hG dL_cell_16)
    have h := ite_f h c12
    cases h
  · have h := hR8 _ eo9
    refine lv_i2l (v := (r10 : Int32).toInt64) hx hb dL_cell_8 rfl ?_
    obtain ⟨M13, eM13, h⟩ := mlet_e h
    refine r_last F hG ha3 (x := r10) rfl eM13 dL_cell_9 (fun H locs hG => ?_)
    refine lv_goto (tgt := 17) hx hb dL_cell_10 (by decide) ?_
    refine lv_iconst (v := 0) hx hb dL_cell_17 (by decide) ?_
    obtain ⟨rfl, rfl⟩ := som2 h
    exact W.widen (k := 1) (n := 6) (Nat.le_of_ble_eq_true rfl) (Nat.le_of_ble_eq_true rfl) (end_i F hr hlk hG dL_cell_18)
set_option maxHeartbeats 4000000 in
set_option maxRecDepth 100000 in
theorem c_L_gather (l : Launch) (D : va_G) (ca : vCA) (g : Nat → Nat) (hst : l.stackTraces = false) {fu : Nat} {M : Mem} {a0 : Nat} {x1 : Int32} {x2 : Int32} {x3 : Int32} {a4 : Nat} {M' : Mem} {r : Int32} (ha0 : kd a0 = 5) (ha4 : kd a4 = 11) (h : m_L_gather fu M a0 x1 x2 x3 a4 = some (M', r)) : cMH l yL_gather cL_gather 6 (some .int) [(0, 12, 15, 13), (0, 12, 19, 21), (0, 12, 23, 15)] { frames := 8, cells := 2, slots := 12, locals := 135 } D ca g M [.ref (g a0), .int x1, .int x2, .int x3, .ref (g a4)] (fun sz => cQi D ca g sz M' r) := by
  refine mk_MetH (by decide) (Nat.le_of_ble_eq_true rfl) ?_
  intro p e s m below meth c F hr hlk htab hG ls hl
  have hx := F.1
  have hb := F.2.1
  replace hl : lv_has ls 6 [(0, .ref (g a0)), (1, .int x1), (2, .int x2), (3, .int x3), (4, .ref (g a4))] := hl
  unfold m_L_gather at h
  refine lv_aload hx hb dL_gather_0 (lv_at hl 4 rfl) ?_
  refine lv_iconst (v := 0) hx hb dL_gather_2 (by decide) ?_
  refine lv_aload_n hx hb dL_gather_3 rfl (lv_at hl 0 rfl) ?_
  refine lv_iload_n hx hb dL_gather_4 rfl (lv_at hl 1 rfl) ?_
  refine lv_iload_n hx hb dL_gather_5 rfl (lv_at hl 2 rfl) ?_
  refine lv_iload_n hx hb dL_gather_6 rfl (lv_at hl 3 rfl) ?_
  obtain ⟨o7, hc6, hL8, hR9⟩ := lb_e h
  refine kl_i (x_runV F hG (c_X5_gather l D ca g hst ha0 hc6) (kd_lt ha0 (by decide)) (gd5 ha0) rfl (kw430 F.kd) (kw431 F.kd) (kw432 F.kd) (kw1 F.kd) (kw433 F.kd) yd_X5_gather ⟨Nat.le_of_ble_eq_true rfl, Nat.le_of_ble_eq_true rfl⟩ rfl hl.1 rfl (Nat.le_of_ble_eq_true rfl) dL_gather_7 ⟨Nat.le_of_ble_eq_true rfl, Nat.le_of_ble_eq_true rfl⟩) hG (fun k12 H locs q ce eo10 hG hce hcv hcl => ?_) (fun M14 r11 H locs eo10 hG => ?_)
  · have h := hL8 _ eo10
    by_cases c13 : k12 = 1
    · have h := ite_t h c13
      subst c13
      refine vx_catch (own := RL) (name := xI) (E := xI) F.2.2.2.1 (tableOf []) _ (tableOf [(0, 12, 19, 21), (0, 12, 23, 15)]) htab (fun z hz => nomatch hz) (by decide) (by decide) (kw293 F.kd) (kw304 F.kd) hce hcv hcl ?_
      refine lv_astore (lv' := [(5, .ref q), (0, .ref (g a0)), (1, .int x1), (2, .int x2), (3, .int x3), (4, .ref (g a4))]) hx hb dL_gather_15 hl (by decide) rfl (fun ls hl => ?_)
      refine lv_iconst (v := 1) hx hb dL_gather_17 (by decide) ?_
      obtain ⟨rfl, rfl⟩ := som2 h
      exact W.widen (k := 2) (n := 12) (Nat.le_of_ble_eq_true rfl) (Nat.le_of_ble_eq_true rfl) (end_i F hr hlk hG dL_gather_18)
    have h := ite_f h c13
    by_cases c13 : k12 = 3
    · have h := ite_t h c13
      subst c13
      refine vx_catch (own := RL) (name := xA) (E := xA) F.2.2.2.1 (tableOf [(0, 12, 15, 13)]) _ (tableOf [(0, 12, 23, 15)]) htab (fun z hz => by
          rcases List.mem_cons.mp hz with rfl | hz
          · exact Or.inr ⟨by decide, xI, kw293 F.kd, F.kx.2.2.2.1 (xA, xI) (by decide)⟩
          exact absurd hz List.not_mem_nil) (by decide) (by decide) (kw398 F.kd) (kw405 F.kd) hce hcv hcl ?_
      refine lv_astore (lv' := [(5, .ref q), (0, .ref (g a0)), (1, .int x1), (2, .int x2), (3, .int x3), (4, .ref (g a4))]) hx hb dL_gather_19 hl (by decide) rfl (fun ls hl => ?_)
      refine lv_iconst (v := 2) hx hb dL_gather_21 (by decide) ?_
      obtain ⟨rfl, rfl⟩ := som2 h
      exact W.widen (k := 2) (n := 12) (Nat.le_of_ble_eq_true rfl) (Nat.le_of_ble_eq_true rfl) (end_i F hr hlk hG dL_gather_22)
    have h := ite_f h c13
    by_cases c13 : k12 = 2
    · have h := ite_t h c13
      subst c13
      refine vx_catch (own := RL) (name := xS) (E := xS) F.2.2.2.1 (tableOf [(0, 12, 15, 13), (0, 12, 19, 21)]) _ (tableOf []) htab (fun z hz => by
          rcases List.mem_cons.mp hz with rfl | hz
          · exact Or.inr ⟨by decide, xI, kw293 F.kd, F.kx.2.2.2.1 (xS, xI) (by decide)⟩
          rcases List.mem_cons.mp hz with rfl | hz
          · exact Or.inr ⟨by decide, xA, kw398 F.kd, F.kx.2.2.2.1 (xS, xA) (by decide)⟩
          exact absurd hz List.not_mem_nil) (by decide) (by decide) (kw294 F.kd) (kw377 F.kd) hce hcv hcl ?_
      refine lv_astore (lv' := [(5, .ref q), (0, .ref (g a0)), (1, .int x1), (2, .int x2), (3, .int x3), (4, .ref (g a4))]) hx hb dL_gather_23 hl (by decide) rfl (fun ls hl => ?_)
      refine lv_iconst (v := 3) hx hb dL_gather_25 (by decide) ?_
      obtain ⟨rfl, rfl⟩ := som2 h
      exact W.widen (k := 2) (n := 12) (Nat.le_of_ble_eq_true rfl) (Nat.le_of_ble_eq_true rfl) (end_i F hr hlk hG dL_gather_26)
    have h := ite_f h c13
    cases h
  · have h := hR9 _ eo10
    have h := up2_e h
    refine lv_i2l (v := (r11 : Int32).toInt64) hx hb dL_gather_10 rfl ?_
    obtain ⟨M15, eM15, h⟩ := mlet_e h
    refine r_last F hG ha4 (x := r11) rfl eM15 dL_gather_11 (fun H locs hG => ?_)
    refine lv_goto (tgt := 27) hx hb dL_gather_12 (by decide) ?_
    refine lv_iconst (v := 0) hx hb dL_gather_27 (by decide) ?_
    obtain ⟨rfl, rfl⟩ := som2 h
    exact W.widen (k := 2) (n := 12) (Nat.le_of_ble_eq_true rfl) (Nat.le_of_ble_eq_true rfl) (end_i F hr hlk hG dL_gather_28)
set_option maxHeartbeats 4000000 in
set_option maxRecDepth 100000 in
theorem c_L_order (l : Launch) (D : va_G) (ca : vCA) (g : Nat → Nat) (hst : l.stackTraces = false) {fu : Nat} {M : Mem} {a0 : Nat} {x1 : Int32} {x2 : Int32} {a3 : Nat} {M' : Mem} {r : Int32} (ha0 : kd a0 = 5) (ha3 : kd a3 = 11) (h : m_L_order fu M a0 x1 x2 a3 = some (M', r)) : cMH l yL_order cL_order 5 (some .int) [(0, 10, 13, 13), (0, 10, 17, 21), (0, 10, 21, 15)] { frames := 8, cells := 2, slots := 12, locals := 134 } D ca g M [.ref (g a0), .int x1, .int x2, .ref (g a3)] (fun sz => cQi D ca g sz M' r) := by
  refine mk_MetH (by decide) (Nat.le_of_ble_eq_true rfl) ?_
  intro p e s m below meth c F hr hlk htab hG ls hl
  have hx := F.1
  have hb := F.2.1
  replace hl : lv_has ls 5 [(0, .ref (g a0)), (1, .int x1), (2, .int x2), (3, .ref (g a3))] := hl
  unfold m_L_order at h
  refine lv_aload_n hx hb dL_order_0 rfl (lv_at hl 3 rfl) ?_
  refine lv_iconst (v := 0) hx hb dL_order_1 (by decide) ?_
  refine lv_aload_n hx hb dL_order_2 rfl (lv_at hl 0 rfl) ?_
  refine lv_iload_n hx hb dL_order_3 rfl (lv_at hl 1 rfl) ?_
  refine lv_iload_n hx hb dL_order_4 rfl (lv_at hl 2 rfl) ?_
  obtain ⟨o6, hc5, hL7, hR8⟩ := lb_e h
  refine kl_i (x_runV F hG (c_X5_order l D ca g hst ha0 hc5) (kd_lt ha0 (by decide)) (gd5 ha0) rfl (kw444 F.kd) (kw445 F.kd) (kw446 F.kd) (kw1 F.kd) (kw447 F.kd) yd_X5_order ⟨Nat.le_of_ble_eq_true rfl, Nat.le_of_ble_eq_true rfl⟩ rfl hl.1 rfl (Nat.le_of_ble_eq_true rfl) dL_order_5 ⟨Nat.le_of_ble_eq_true rfl, Nat.le_of_ble_eq_true rfl⟩) hG (fun k11 H locs q ce eo9 hG hce hcv hcl => ?_) (fun M13 r10 H locs eo9 hG => ?_)
  · have h := hL7 _ eo9
    by_cases c12 : k11 = 1
    · have h := ite_t h c12
      subst c12
      refine vx_catch (own := RL) (name := xI) (E := xI) F.2.2.2.1 (tableOf []) _ (tableOf [(0, 10, 17, 21), (0, 10, 21, 15)]) htab (fun z hz => nomatch hz) (by decide) (by decide) (kw293 F.kd) (kw304 F.kd) hce hcv hcl ?_
      refine lv_astore (lv' := [(4, .ref q), (0, .ref (g a0)), (1, .int x1), (2, .int x2), (3, .ref (g a3))]) hx hb dL_order_13 hl (by decide) rfl (fun ls hl => ?_)
      refine lv_iconst (v := 1) hx hb dL_order_15 (by decide) ?_
      obtain ⟨rfl, rfl⟩ := som2 h
      exact W.widen (k := 2) (n := 12) (Nat.le_of_ble_eq_true rfl) (Nat.le_of_ble_eq_true rfl) (end_i F hr hlk hG dL_order_16)
    have h := ite_f h c12
    by_cases c12 : k11 = 3
    · have h := ite_t h c12
      subst c12
      refine vx_catch (own := RL) (name := xA) (E := xA) F.2.2.2.1 (tableOf [(0, 10, 13, 13)]) _ (tableOf [(0, 10, 21, 15)]) htab (fun z hz => by
          rcases List.mem_cons.mp hz with rfl | hz
          · exact Or.inr ⟨by decide, xI, kw293 F.kd, F.kx.2.2.2.1 (xA, xI) (by decide)⟩
          exact absurd hz List.not_mem_nil) (by decide) (by decide) (kw398 F.kd) (kw405 F.kd) hce hcv hcl ?_
      refine lv_astore (lv' := [(4, .ref q), (0, .ref (g a0)), (1, .int x1), (2, .int x2), (3, .ref (g a3))]) hx hb dL_order_17 hl (by decide) rfl (fun ls hl => ?_)
      refine lv_iconst (v := 2) hx hb dL_order_19 (by decide) ?_
      obtain ⟨rfl, rfl⟩ := som2 h
      exact W.widen (k := 2) (n := 12) (Nat.le_of_ble_eq_true rfl) (Nat.le_of_ble_eq_true rfl) (end_i F hr hlk hG dL_order_20)
    have h := ite_f h c12
    by_cases c12 : k11 = 2
    · have h := ite_t h c12
      subst c12
      refine vx_catch (own := RL) (name := xS) (E := xS) F.2.2.2.1 (tableOf [(0, 10, 13, 13), (0, 10, 17, 21)]) _ (tableOf []) htab (fun z hz => by
          rcases List.mem_cons.mp hz with rfl | hz
          · exact Or.inr ⟨by decide, xI, kw293 F.kd, F.kx.2.2.2.1 (xS, xI) (by decide)⟩
          rcases List.mem_cons.mp hz with rfl | hz
          · exact Or.inr ⟨by decide, xA, kw398 F.kd, F.kx.2.2.2.1 (xS, xA) (by decide)⟩
          exact absurd hz List.not_mem_nil) (by decide) (by decide) (kw294 F.kd) (kw377 F.kd) hce hcv hcl ?_
      refine lv_astore (lv' := [(4, .ref q), (0, .ref (g a0)), (1, .int x1), (2, .int x2), (3, .ref (g a3))]) hx hb dL_order_21 hl (by decide) rfl (fun ls hl => ?_)
      refine lv_iconst (v := 3) hx hb dL_order_23 (by decide) ?_
      obtain ⟨rfl, rfl⟩ := som2 h
      exact W.widen (k := 2) (n := 12) (Nat.le_of_ble_eq_true rfl) (Nat.le_of_ble_eq_true rfl) (end_i F hr hlk hG dL_order_24)
    have h := ite_f h c12
    cases h
  · have h := hR8 _ eo9
    have h := up2_e h
    refine lv_i2l (v := (r10 : Int32).toInt64) hx hb dL_order_8 rfl ?_
    obtain ⟨M14, eM14, h⟩ := mlet_e h
    refine r_last F hG ha3 (x := r10) rfl eM14 dL_order_9 (fun H locs hG => ?_)
    refine lv_goto (tgt := 25) hx hb dL_order_10 (by decide) ?_
    refine lv_iconst (v := 0) hx hb dL_order_25 (by decide) ?_
    obtain ⟨rfl, rfl⟩ := som2 h
    exact W.widen (k := 2) (n := 12) (Nat.le_of_ble_eq_true rfl) (Nat.le_of_ble_eq_true rfl) (end_i F hr hlk hG dL_order_26)
set_option maxHeartbeats 4000000 in
set_option maxRecDepth 100000 in
theorem c_L_torch (l : Launch) (D : va_G) (ca : vCA) (g : Nat → Nat) (hst : l.stackTraces = false) {fu : Nat} {M : Mem} {a0 : Nat} {x1 : Int32} {a2 : Nat} {M' : Mem} {r : Int32} (ha0 : kd a0 = 5) (ha2 : kd a2 = 11) (h : m_L_torch fu M a0 x1 a2 = some (M', r)) : cMH l yL_torch cL_torch 4 (some .int) [(0, 16, 19, 13), (0, 16, 22, 15)] { frames := 8, cells := 2, slots := 12, locals := 133 } D ca g M [.ref (g a0), .int x1, .ref (g a2)] (fun sz => cQi D ca g sz M' r) := by
  refine mk_MetH (by decide) (Nat.le_of_ble_eq_true rfl) ?_
  intro p e s m below meth c F hr hlk htab hG ls hl
  have hx := F.1
  have hb := F.2.1
  replace hl : lv_has ls 4 [(0, .ref (g a0)), (1, .int x1), (2, .ref (g a2))] := hl
  unfold m_L_torch at h
  refine lv_aload_n hx hb dL_torch_0 rfl (lv_at hl 2 rfl) ?_
  refine lv_iconst (v := 0) hx hb dL_torch_1 (by decide) ?_
  refine lv_aload_n hx hb dL_torch_2 rfl (lv_at hl 0 rfl) ?_
  refine lv_iload_n hx hb dL_torch_3 rfl (lv_at hl 1 rfl) ?_
  obtain ⟨o5, hc4, hL6, hR7⟩ := lb_e h
  refine kl_i (x_runV F hG (c_X5_torch l D ca g hst ha0 hc4) (kd_lt ha0 (by decide)) (gd5 ha0) rfl (kw463 F.kd) (kw464 F.kd) (kw465 F.kd) (kw1 F.kd) (kw466 F.kd) yd_X5_torch ⟨Nat.le_of_ble_eq_true rfl, Nat.le_of_ble_eq_true rfl⟩ rfl hl.1 rfl (Nat.le_of_ble_eq_true rfl) dL_torch_4 ⟨Nat.le_of_ble_eq_true rfl, Nat.le_of_ble_eq_true rfl⟩) hG (fun k10 H locs q ce eo8 hG hce hcv hcl => ?_) (fun M12 r9 H locs eo8 hG => ?_)
  · have h := hL6 _ eo8
    by_cases c11 : k10 = 1
    · have h := ite_t h c11
      subst c11
      refine vx_catch (own := RL) (name := xI) (E := xI) F.2.2.2.1 (tableOf []) _ (tableOf [(0, 16, 22, 15)]) htab (fun z hz => nomatch hz) (by decide) (by decide) (kw293 F.kd) (kw304 F.kd) hce hcv hcl ?_
      refine lv_astore_n (lv' := [(3, .ref q), (0, .ref (g a0)), (1, .int x1), (2, .ref (g a2))]) hx hb dL_torch_19 rfl hl (by decide) rfl (fun ls hl => ?_)
      refine lv_iconst (v := 1) hx hb dL_torch_20 (by decide) ?_
      obtain ⟨rfl, rfl⟩ := som2 h
      exact W.widen (k := 2) (n := 12) (Nat.le_of_ble_eq_true rfl) (Nat.le_of_ble_eq_true rfl) (end_i F hr hlk hG dL_torch_21)
    have h := ite_f h c11
    by_cases c11 : k10 = 2
    · have h := ite_t h c11
      subst c11
      refine vx_catch (own := RL) (name := xS) (E := xS) F.2.2.2.1 (tableOf [(0, 16, 19, 13)]) _ (tableOf []) htab (fun z hz => by
          rcases List.mem_cons.mp hz with rfl | hz
          · exact Or.inr ⟨by decide, xI, kw293 F.kd, F.kx.2.2.2.1 (xS, xI) (by decide)⟩
          exact absurd hz List.not_mem_nil) (by decide) (by decide) (kw294 F.kd) (kw377 F.kd) hce hcv hcl ?_
      refine lv_astore_n (lv' := [(3, .ref q), (0, .ref (g a0)), (1, .int x1), (2, .ref (g a2))]) hx hb dL_torch_22 rfl hl (by decide) rfl (fun ls hl => ?_)
      refine lv_iconst (v := 2) hx hb dL_torch_23 (by decide) ?_
      obtain ⟨rfl, rfl⟩ := som2 h
      exact W.widen (k := 2) (n := 12) (Nat.le_of_ble_eq_true rfl) (Nat.le_of_ble_eq_true rfl) (end_i F hr hlk hG dL_torch_24)
    have h := ite_f h c11
    cases h
  · have h := hR7 _ eo8
    have h := up2_e h
    refine lv_if_eq (tgt := 14) hx hb dL_torch_7 (by decide) (fun c13 => ?_) (fun c13 => ?_)
    · have h := ite_t h c13
      refine lv_lconst (v := 0) hx hb dL_torch_14 (by decide) ?_
      obtain ⟨M14, eM14, h⟩ := mlet_e h
      refine r_last F hG ha2 (x := 0) (by decide) eM14 dL_torch_15 (fun H locs hG => ?_)
      refine lv_goto (tgt := 25) hx hb dL_torch_16 (by decide) ?_
      refine lv_iconst (v := 0) hx hb dL_torch_25 (by decide) ?_
      obtain ⟨rfl, rfl⟩ := som2 h
      exact W.widen (k := 2) (n := 12) (Nat.le_of_ble_eq_true rfl) (Nat.le_of_ble_eq_true rfl) (end_i F hr hlk hG dL_torch_26)
    · have h := ite_f h c13
      refine lv_lconst (v := 1) hx hb dL_torch_10 (by decide) ?_
      refine lv_goto (tgt := 15) hx hb dL_torch_11 (by decide) ?_
      obtain ⟨M15, eM15, h⟩ := mlet_e h
      refine r_last F hG ha2 (x := 1) (by decide) eM15 dL_torch_15 (fun H locs hG => ?_)
      refine lv_goto (tgt := 25) hx hb dL_torch_16 (by decide) ?_
      refine lv_iconst (v := 0) hx hb dL_torch_25 (by decide) ?_
      obtain ⟨rfl, rfl⟩ := som2 h
      exact W.widen (k := 2) (n := 12) (Nat.le_of_ble_eq_true rfl) (Nat.le_of_ble_eq_true rfl) (end_i F hr hlk hG dL_torch_26)
set_option maxHeartbeats 4000000 in
set_option maxRecDepth 100000 in
theorem c_L_patrol (l : Launch) (D : va_G) (ca : vCA) (g : Nat → Nat) (hst : l.stackTraces = false) {fu : Nat} {M : Mem} {a0 : Nat} {x1 : Int32} {x2 : Int32} {x3 : Int32} {x4 : Int32} {a5 : Nat} {M' : Mem} {r : Int32} (ha0 : kd a0 = 5) (ha5 : kd a5 = 11) (h : m_L_patrol fu M a0 x1 x2 x3 x4 a5 = some (M', r)) : cMH l yL_patrol cL_patrol 7 (some .int) [(0, 14, 17, 13), (0, 14, 21, 21), (0, 14, 25, 15)] { frames := 8, cells := 2, slots := 12, locals := 136 } D ca g M [.ref (g a0), .int x1, .int x2, .int x3, .int x4, .ref (g a5)] (fun sz => cQi D ca g sz M' r) := by
  refine mk_MetH (by decide) (Nat.le_of_ble_eq_true rfl) ?_
  intro p e s m below meth c F hr hlk htab hG ls hl
  have hx := F.1
  have hb := F.2.1
  replace hl : lv_has ls 7 [(0, .ref (g a0)), (1, .int x1), (2, .int x2), (3, .int x3), (4, .int x4), (5, .ref (g a5))] := hl
  unfold m_L_patrol at h
  refine lv_aload hx hb dL_patrol_0 (lv_at hl 5 rfl) ?_
  refine lv_iconst (v := 0) hx hb dL_patrol_2 (by decide) ?_
  refine lv_aload_n hx hb dL_patrol_3 rfl (lv_at hl 0 rfl) ?_
  refine lv_iload_n hx hb dL_patrol_4 rfl (lv_at hl 1 rfl) ?_
  refine lv_iload_n hx hb dL_patrol_5 rfl (lv_at hl 2 rfl) ?_
  refine lv_iload_n hx hb dL_patrol_6 rfl (lv_at hl 3 rfl) ?_
  refine lv_iload hx hb dL_patrol_7 (lv_at hl 4 rfl) ?_
  obtain ⟨o8, hc7, hL9, hR10⟩ := lb_e h
  refine kl_i (x_runV F hG (c_X5_patrol l D ca g hst ha0 hc7) (kd_lt ha0 (by decide)) (gd5 ha0) rfl (kw471 F.kd) (kw472 F.kd) (kw473 F.kd) (kw1 F.kd) (kw474 F.kd) yd_X5_patrol ⟨Nat.le_of_ble_eq_true rfl, Nat.le_of_ble_eq_true rfl⟩ rfl hl.1 rfl (Nat.le_of_ble_eq_true rfl) dL_patrol_9 ⟨Nat.le_of_ble_eq_true rfl, Nat.le_of_ble_eq_true rfl⟩) hG (fun k13 H locs q ce eo11 hG hce hcv hcl => ?_) (fun M15 r12 H locs eo11 hG => ?_)
  · have h := hL9 _ eo11
    by_cases c14 : k13 = 1
    · have h := ite_t h c14
      subst c14
      refine vx_catch (own := RL) (name := xI) (E := xI) F.2.2.2.1 (tableOf []) _ (tableOf [(0, 14, 21, 21), (0, 14, 25, 15)]) htab (fun z hz => nomatch hz) (by decide) (by decide) (kw293 F.kd) (kw304 F.kd) hce hcv hcl ?_
      refine lv_astore (lv' := [(6, .ref q), (0, .ref (g a0)), (1, .int x1), (2, .int x2), (3, .int x3), (4, .int x4), (5, .ref (g a5))]) hx hb dL_patrol_17 hl (by decide) rfl (fun ls hl => ?_)
      refine lv_iconst (v := 1) hx hb dL_patrol_19 (by decide) ?_
      obtain ⟨rfl, rfl⟩ := som2 h
      exact W.widen (k := 2) (n := 12) (Nat.le_of_ble_eq_true rfl) (Nat.le_of_ble_eq_true rfl) (end_i F hr hlk hG dL_patrol_20)
    have h := ite_f h c14
    by_cases c14 : k13 = 3
    · have h := ite_t h c14
      subst c14
      refine vx_catch (own := RL) (name := xA) (E := xA) F.2.2.2.1 (tableOf [(0, 14, 17, 13)]) _ (tableOf [(0, 14, 25, 15)]) htab (fun z hz => by
          rcases List.mem_cons.mp hz with rfl | hz
          · exact Or.inr ⟨by decide, xI, kw293 F.kd, F.kx.2.2.2.1 (xA, xI) (by decide)⟩
          exact absurd hz List.not_mem_nil) (by decide) (by decide) (kw398 F.kd) (kw405 F.kd) hce hcv hcl ?_
      refine lv_astore (lv' := [(6, .ref q), (0, .ref (g a0)), (1, .int x1), (2, .int x2), (3, .int x3), (4, .int x4), (5, .ref (g a5))]) hx hb dL_patrol_21 hl (by decide) rfl (fun ls hl => ?_)
      refine lv_iconst (v := 2) hx hb dL_patrol_23 (by decide) ?_
      obtain ⟨rfl, rfl⟩ := som2 h
      exact W.widen (k := 2) (n := 12) (Nat.le_of_ble_eq_true rfl) (Nat.le_of_ble_eq_true rfl) (end_i F hr hlk hG dL_patrol_24)
    have h := ite_f h c14
    by_cases c14 : k13 = 2
    · have h := ite_t h c14
      subst c14
      refine vx_catch (own := RL) (name := xS) (E := xS) F.2.2.2.1 (tableOf [(0, 14, 17, 13), (0, 14, 21, 21)]) _ (tableOf []) htab (fun z hz => by
          rcases List.mem_cons.mp hz with rfl | hz
          · exact Or.inr ⟨by decide, xI, kw293 F.kd, F.kx.2.2.2.1 (xS, xI) (by decide)⟩
          rcases List.mem_cons.mp hz with rfl | hz
          · exact Or.inr ⟨by decide, xA, kw398 F.kd, F.kx.2.2.2.1 (xS, xA) (by decide)⟩
          exact absurd hz List.not_mem_nil) (by decide) (by decide) (kw294 F.kd) (kw377 F.kd) hce hcv hcl ?_
      refine lv_astore (lv' := [(6, .ref q), (0, .ref (g a0)), (1, .int x1), (2, .int x2), (3, .int x3), (4, .int x4), (5, .ref (g a5))]) hx hb dL_patrol_25 hl (by decide) rfl (fun ls hl => ?_)
      refine lv_iconst (v := 3) hx hb dL_patrol_27 (by decide) ?_
      obtain ⟨rfl, rfl⟩ := som2 h
      exact W.widen (k := 2) (n := 12) (Nat.le_of_ble_eq_true rfl) (Nat.le_of_ble_eq_true rfl) (end_i F hr hlk hG dL_patrol_28)
    have h := ite_f h c14
    cases h
  · have h := hR10 _ eo11
    have h := up2_e h
    refine lv_i2l (v := (r12 : Int32).toInt64) hx hb dL_patrol_12 rfl ?_
    obtain ⟨M16, eM16, h⟩ := mlet_e h
    refine r_last F hG ha5 (x := r12) rfl eM16 dL_patrol_13 (fun H locs hG => ?_)
    refine lv_goto (tgt := 29) hx hb dL_patrol_14 (by decide) ?_
    refine lv_iconst (v := 0) hx hb dL_patrol_29 (by decide) ?_
    obtain ⟨rfl, rfl⟩ := som2 h
    exact W.widen (k := 2) (n := 12) (Nat.le_of_ble_eq_true rfl) (Nat.le_of_ble_eq_true rfl) (end_i F hr hlk hG dL_patrol_30)
set_option maxHeartbeats 4000000 in
set_option maxRecDepth 100000 in
theorem c_L_crowd (l : Launch) (D : va_G) (ca : vCA) (g : Nat → Nat) (hst : l.stackTraces = false) {fu : Nat} {M : Mem} {a0 : Nat} {x1 : Int32} {x2 : Int32} {a3 : Nat} {M' : Mem} {r : Int32} (ha0 : kd a0 = 5) (ha3 : kd a3 = 11) (h : m_L_crowd fu M a0 x1 x2 a3 = some (M', r)) : cMH l yL_crowd cL_crowd 5 (some .int) [(0, 10, 13, 13)] { frames := 8, cells := 2, slots := 12, locals := 133 } D ca g M [.ref (g a0), .int x1, .int x2, .ref (g a3)] (fun sz => cQi D ca g sz M' r) := by
  refine mk_MetH (by decide) (Nat.le_of_ble_eq_true rfl) ?_
  intro p e s m below meth c F hr hlk htab hG ls hl
  have hx := F.1
  have hb := F.2.1
  replace hl : lv_has ls 5 [(0, .ref (g a0)), (1, .int x1), (2, .int x2), (3, .ref (g a3))] := hl
  unfold m_L_crowd at h
  refine lv_aload_n hx hb dL_crowd_0 rfl (lv_at hl 3 rfl) ?_
  refine lv_iconst (v := 0) hx hb dL_crowd_1 (by decide) ?_
  refine lv_aload_n hx hb dL_crowd_2 rfl (lv_at hl 0 rfl) ?_
  refine lv_iload_n hx hb dL_crowd_3 rfl (lv_at hl 1 rfl) ?_
  refine lv_iload_n hx hb dL_crowd_4 rfl (lv_at hl 2 rfl) ?_
  obtain ⟨o6, hc5, hL7, hR8⟩ := lb_e h
  refine kl_p (x_runV F hG (c_X5_crowd l D ca g hst ha0 hc5) (kd_lt ha0 (by decide)) (gd5 ha0) rfl (kw484 F.kd) (kw485 F.kd) (kw486 F.kd) (kw1 F.kd) (kw487 F.kd) yd_X5_crowd ⟨Nat.le_of_ble_eq_true rfl, Nat.le_of_ble_eq_true rfl⟩ rfl hl.1 rfl (Nat.le_of_ble_eq_true rfl) dL_crowd_5 ⟨Nat.le_of_ble_eq_true rfl, Nat.le_of_ble_eq_true rfl⟩) hG (fun k11 H locs q ce eo9 hG hce hcv hcl => ?_) (fun r10 H locs eo9 hG => ?_)
  · have h := hL7 _ eo9
    by_cases c12 : k11 = 1
    · have h := ite_t h c12
      subst c12
      refine vx_catch (own := RL) (name := xI) (E := xI) F.2.2.2.1 (tableOf []) _ (tableOf []) htab (fun z hz => nomatch hz) (by decide) (by decide) (kw293 F.kd) (kw304 F.kd) hce hcv hcl ?_
      refine lv_astore (lv' := [(4, .ref q), (0, .ref (g a0)), (1, .int x1), (2, .int x2), (3, .ref (g a3))]) hx hb dL_crowd_13 hl (by decide) rfl (fun ls hl => ?_)
      refine lv_iconst (v := 1) hx hb dL_crowd_15 (by decide) ?_
      obtain ⟨rfl, rfl⟩ := som2 h
      exact W.widen (k := 2) (n := 12) (Nat.le_of_ble_eq_true rfl) (Nat.le_of_ble_eq_true rfl) (end_i F hr hlk hG dL_crowd_16)
    have h := ite_f h c12
    cases h
  · have h := hR8 _ eo9
    refine lv_i2l (v := (r10 : Int32).toInt64) hx hb dL_crowd_8 rfl ?_
    obtain ⟨M13, eM13, h⟩ := mlet_e h
    refine r_last F hG ha3 (x := r10) rfl eM13 dL_crowd_9 (fun H locs hG => ?_)
    refine lv_goto (tgt := 17) hx hb dL_crowd_10 (by decide) ?_
    refine lv_iconst (v := 0) hx hb dL_crowd_17 (by decide) ?_
    obtain ⟨rfl, rfl⟩ := som2 h
    exact W.widen (k := 2) (n := 12) (Nat.le_of_ble_eq_true rfl) (Nat.le_of_ble_eq_true rfl) (end_i F hr hlk hG dL_crowd_18)
set_option maxHeartbeats 4000000 in
set_option maxRecDepth 100000 in
theorem c_L_guard (l : Launch) (D : va_G) (ca : vCA) (g : Nat → Nat) (hst : l.stackTraces = false) {fu : Nat} {M : Mem} {a0 : Nat} {x1 : Int32} {x2 : Int32} {a3 : Nat} {M' : Mem} {r : Int32} (ha0 : kd a0 = 5) (ha3 : kd a3 = 11) (h : m_L_guard fu M a0 x1 x2 a3 = some (M', r)) : cMH l yL_guard cL_guard 5 (some .int) [(0, 10, 13, 13)] { frames := 8, cells := 2, slots := 12, locals := 133 } D ca g M [.ref (g a0), .int x1, .int x2, .ref (g a3)] (fun sz => cQi D ca g sz M' r) := by
  refine mk_MetH (by decide) (Nat.le_of_ble_eq_true rfl) ?_
  intro p e s m below meth c F hr hlk htab hG ls hl
  have hx := F.1
  have hb := F.2.1
  replace hl : lv_has ls 5 [(0, .ref (g a0)), (1, .int x1), (2, .int x2), (3, .ref (g a3))] := hl
  unfold m_L_guard at h
  refine lv_aload_n hx hb dL_guard_0 rfl (lv_at hl 3 rfl) ?_
  refine lv_iconst (v := 0) hx hb dL_guard_1 (by decide) ?_
  refine lv_aload_n hx hb dL_guard_2 rfl (lv_at hl 0 rfl) ?_
  refine lv_iload_n hx hb dL_guard_3 rfl (lv_at hl 1 rfl) ?_
  refine lv_iload_n hx hb dL_guard_4 rfl (lv_at hl 2 rfl) ?_
  obtain ⟨o6, hc5, hL7, hR8⟩ := lb_e h
  refine kl_p (x_runV F hG (c_X5_guard l D ca g hst ha0 hc5) (kd_lt ha0 (by decide)) (gd5 ha0) rfl (kw496 F.kd) (kw497 F.kd) (kw498 F.kd) (kw1 F.kd) (kw499 F.kd) yd_X5_guard ⟨Nat.le_of_ble_eq_true rfl, Nat.le_of_ble_eq_true rfl⟩ rfl hl.1 rfl (Nat.le_of_ble_eq_true rfl) dL_guard_5 ⟨Nat.le_of_ble_eq_true rfl, Nat.le_of_ble_eq_true rfl⟩) hG (fun k11 H locs q ce eo9 hG hce hcv hcl => ?_) (fun r10 H locs eo9 hG => ?_)
  · have h := hL7 _ eo9
    by_cases c12 : k11 = 1
    · have h := ite_t h c12
      subst c12
      refine vx_catch (own := RL) (name := xI) (E := xI) F.2.2.2.1 (tableOf []) _ (tableOf []) htab (fun z hz => nomatch hz) (by decide) (by decide) (kw293 F.kd) (kw304 F.kd) hce hcv hcl ?_
      refine lv_astore (lv' := [(4, .ref q), (0, .ref (g a0)), (1, .int x1), (2, .int x2), (3, .ref (g a3))]) hx hb dL_guard_13 hl (by decide) rfl (fun ls hl => ?_)
      refine lv_iconst (v := 1) hx hb dL_guard_15 (by decide) ?_
      obtain ⟨rfl, rfl⟩ := som2 h
      exact W.widen (k := 2) (n := 12) (Nat.le_of_ble_eq_true rfl) (Nat.le_of_ble_eq_true rfl) (end_i F hr hlk hG dL_guard_16)
    have h := ite_f h c12
    cases h
  · have h := hR8 _ eo9
    refine lv_i2l (v := (r10 : Int32).toInt64) hx hb dL_guard_8 rfl ?_
    obtain ⟨M13, eM13, h⟩ := mlet_e h
    refine r_last F hG ha3 (x := r10) rfl eM13 dL_guard_9 (fun H locs hG => ?_)
    refine lv_goto (tgt := 17) hx hb dL_guard_10 (by decide) ?_
    refine lv_iconst (v := 0) hx hb dL_guard_17 (by decide) ?_
    obtain ⟨rfl, rfl⟩ := som2 h
    exact W.widen (k := 2) (n := 12) (Nat.le_of_ble_eq_true rfl) (Nat.le_of_ble_eq_true rfl) (end_i F hr hlk hG dL_guard_18)
set_option maxHeartbeats 4000000 in
set_option maxRecDepth 100000 in
theorem c_L_sees (l : Launch) (D : va_G) (ca : vCA) (g : Nat → Nat) (hst : l.stackTraces = false) {fu : Nat} {M : Mem} {a0 : Nat} {x1 : Int32} {x2 : Int32} {a3 : Nat} {M' : Mem} {r : Int32} (ha0 : kd a0 = 5) (ha3 : kd a3 = 11) (h : m_L_sees fu M a0 x1 x2 a3 = some (M', r)) : cMH l yL_sees cL_sees 5 (some .int) [(0, 17, 20, 13)] { frames := 8, cells := 2, slots := 12, locals := 133 } D ca g M [.ref (g a0), .int x1, .int x2, .ref (g a3)] (fun sz => cQi D ca g sz M' r) := by
  refine mk_MetH (by decide) (Nat.le_of_ble_eq_true rfl) ?_
  intro p e s m below meth c F hr hlk htab hG ls hl
  have hx := F.1
  have hb := F.2.1
  replace hl : lv_has ls 5 [(0, .ref (g a0)), (1, .int x1), (2, .int x2), (3, .ref (g a3))] := hl
  unfold m_L_sees at h
  refine lv_aload_n hx hb dL_sees_0 rfl (lv_at hl 3 rfl) ?_
  refine lv_iconst (v := 0) hx hb dL_sees_1 (by decide) ?_
  refine lv_aload_n hx hb dL_sees_2 rfl (lv_at hl 0 rfl) ?_
  refine lv_iload_n hx hb dL_sees_3 rfl (lv_at hl 1 rfl) ?_
  refine lv_iload_n hx hb dL_sees_4 rfl (lv_at hl 2 rfl) ?_
  obtain ⟨o6, hc5, hL7, hR8⟩ := lb_e h
  refine kl_p (x_runV F hG (c_X5_sees l D ca g hst ha0 hc5) (kd_lt ha0 (by decide)) (gd5 ha0) rfl (kw509 F.kd) (kw510 F.kd) (kw511 F.kd) (kw1 F.kd) (kw512 F.kd) yd_X5_sees ⟨Nat.le_of_ble_eq_true rfl, Nat.le_of_ble_eq_true rfl⟩ rfl hl.1 rfl (Nat.le_of_ble_eq_true rfl) dL_sees_5 ⟨Nat.le_of_ble_eq_true rfl, Nat.le_of_ble_eq_true rfl⟩) hG (fun k11 H locs q ce eo9 hG hce hcv hcl => ?_) (fun r10 H locs eo9 hG => ?_)
  · have h := hL7 _ eo9
    by_cases c12 : k11 = 1
    · have h := ite_t h c12
      subst c12
      refine vx_catch (own := RL) (name := xI) (E := xI) F.2.2.2.1 (tableOf []) _ (tableOf []) htab (fun z hz => nomatch hz) (by decide) (by decide) (kw293 F.kd) (kw304 F.kd) hce hcv hcl ?_
      refine lv_astore (lv' := [(4, .ref q), (0, .ref (g a0)), (1, .int x1), (2, .int x2), (3, .ref (g a3))]) hx hb dL_sees_20 hl (by decide) rfl (fun ls hl => ?_)
      refine lv_iconst (v := 1) hx hb dL_sees_22 (by decide) ?_
      obtain ⟨rfl, rfl⟩ := som2 h
      exact W.widen (k := 2) (n := 12) (Nat.le_of_ble_eq_true rfl) (Nat.le_of_ble_eq_true rfl) (end_i F hr hlk hG dL_sees_23)
    have h := ite_f h c12
    cases h
  · have h := hR8 _ eo9
    refine lv_if_eq (tgt := 15) hx hb dL_sees_8 (by decide) (fun c13 => ?_) (fun c13 => ?_)
    · have h := ite_t h c13
      refine lv_lconst (v := 0) hx hb dL_sees_15 (by decide) ?_
      obtain ⟨M14, eM14, h⟩ := mlet_e h
      refine r_last F hG ha3 (x := 0) (by decide) eM14 dL_sees_16 (fun H locs hG => ?_)
      refine lv_goto (tgt := 24) hx hb dL_sees_17 (by decide) ?_
      refine lv_iconst (v := 0) hx hb dL_sees_24 (by decide) ?_
      obtain ⟨rfl, rfl⟩ := som2 h
      exact W.widen (k := 2) (n := 12) (Nat.le_of_ble_eq_true rfl) (Nat.le_of_ble_eq_true rfl) (end_i F hr hlk hG dL_sees_25)
    · have h := ite_f h c13
      refine lv_lconst (v := 1) hx hb dL_sees_11 (by decide) ?_
      refine lv_goto (tgt := 16) hx hb dL_sees_12 (by decide) ?_
      obtain ⟨M15, eM15, h⟩ := mlet_e h
      refine r_last F hG ha3 (x := 1) (by decide) eM15 dL_sees_16 (fun H locs hG => ?_)
      refine lv_goto (tgt := 24) hx hb dL_sees_17 (by decide) ?_
      refine lv_iconst (v := 0) hx hb dL_sees_24 (by decide) ?_
      obtain ⟨rfl, rfl⟩ := som2 h
      exact W.widen (k := 2) (n := 12) (Nat.le_of_ble_eq_true rfl) (Nat.le_of_ble_eq_true rfl) (end_i F hr hlk hG dL_sees_25)
set_option maxHeartbeats 4000000 in
set_option maxRecDepth 100000 in
theorem c_L_count (l : Launch) (D : va_G) (ca : vCA) (g : Nat → Nat) (hst : l.stackTraces = false) {fu : Nat} {M : Mem} {a0 : Nat} {x1 : Int32} {a2 : Nat} {M' : Mem} {r : Int32} (ha0 : kd a0 = 5) (ha2 : kd a2 = 11) (h : m_L_count fu M a0 x1 a2 = some (M', r)) : cMH l yL_count cL_count 4 (some .int) [(0, 9, 12, 13)] { frames := 8, cells := 1, slots := 6, locals := 132 } D ca g M [.ref (g a0), .int x1, .ref (g a2)] (fun sz => cQi D ca g sz M' r) := by
  refine mk_MetH (by decide) (Nat.le_of_ble_eq_true rfl) ?_
  intro p e s m below meth c F hr hlk htab hG ls hl
  have hx := F.1
  have hb := F.2.1
  replace hl : lv_has ls 4 [(0, .ref (g a0)), (1, .int x1), (2, .ref (g a2))] := hl
  unfold m_L_count at h
  refine lv_aload_n hx hb dL_count_0 rfl (lv_at hl 2 rfl) ?_
  refine lv_iconst (v := 0) hx hb dL_count_1 (by decide) ?_
  refine lv_aload_n hx hb dL_count_2 rfl (lv_at hl 0 rfl) ?_
  refine lv_iload_n hx hb dL_count_3 rfl (lv_at hl 1 rfl) ?_
  obtain ⟨o5, hc4, hL6, hR7⟩ := lb_e h
  refine kl_p (x_runV F hG (c_X5_count l D ca g hst ha0 hc4) (kd_lt ha0 (by decide)) (gd5 ha0) rfl (kw517 F.kd) (kw518 F.kd) (kw519 F.kd) (kw1 F.kd) (kw520 F.kd) yd_X5_count ⟨Nat.le_of_ble_eq_true rfl, Nat.le_of_ble_eq_true rfl⟩ rfl hl.1 rfl (Nat.le_of_ble_eq_true rfl) dL_count_4 ⟨Nat.le_of_ble_eq_true rfl, Nat.le_of_ble_eq_true rfl⟩) hG (fun k10 H locs q ce eo8 hG hce hcv hcl => ?_) (fun r9 H locs eo8 hG => ?_)
  · have h := hL6 _ eo8
    by_cases c11 : k10 = 1
    · have h := ite_t h c11
      subst c11
      refine vx_catch (own := RL) (name := xI) (E := xI) F.2.2.2.1 (tableOf []) _ (tableOf []) htab (fun z hz => nomatch hz) (by decide) (by decide) (kw293 F.kd) (kw304 F.kd) hce hcv hcl ?_
      refine lv_astore_n (lv' := [(3, .ref q), (0, .ref (g a0)), (1, .int x1), (2, .ref (g a2))]) hx hb dL_count_12 rfl hl (by decide) rfl (fun ls hl => ?_)
      refine lv_iconst (v := 1) hx hb dL_count_13 (by decide) ?_
      obtain ⟨rfl, rfl⟩ := som2 h
      exact W.widen (k := 1) (n := 6) (Nat.le_of_ble_eq_true rfl) (Nat.le_of_ble_eq_true rfl) (end_i F hr hlk hG dL_count_14)
    have h := ite_f h c11
    cases h
  · have h := hR7 _ eo8
    refine lv_i2l (v := (r9 : Int32).toInt64) hx hb dL_count_7 rfl ?_
    obtain ⟨M12, eM12, h⟩ := mlet_e h
    refine r_last F hG ha2 (x := r9) rfl eM12 dL_count_8 (fun H locs hG => ?_)
    refine lv_goto (tgt := 15) hx hb dL_count_9 (by decide) ?_
    refine lv_iconst (v := 0) hx hb dL_count_15 (by decide) ?_
    obtain ⟨rfl, rfl⟩ := som2 h
    exact W.widen (k := 1) (n := 6) (Nat.le_of_ble_eq_true rfl) (Nat.le_of_ble_eq_true rfl) (end_i F hr hlk hG dL_count_16)
set_option maxHeartbeats 4000000 in
set_option maxRecDepth 100000 in
theorem c_L_way (l : Launch) (D : va_G) (ca : vCA) (g : Nat → Nat) (hst : l.stackTraces = false) {fu : Nat} {M : Mem} {a0 : Nat} {x1 : Int32} {x2 : Int32} {x3 : Int32} {x4 : Int32} {a5 : Nat} {M' : Mem} {r : Int32} (ha0 : kd a0 = 5) (ha5 : kd a5 = 11) (h : m_L_way fu M a0 x1 x2 x3 x4 a5 = some (M', r)) : cMH l yL_way cL_way 7 (some .int) [(0, 14, 17, 13)] { frames := 8, cells := 2, slots := 12, locals := 135 } D ca g M [.ref (g a0), .int x1, .int x2, .int x3, .int x4, .ref (g a5)] (fun sz => cQi D ca g sz M' r) := by
  refine mk_MetH (by decide) (Nat.le_of_ble_eq_true rfl) ?_
  intro p e s m below meth c F hr hlk htab hG ls hl
  have hx := F.1
  have hb := F.2.1
  replace hl : lv_has ls 7 [(0, .ref (g a0)), (1, .int x1), (2, .int x2), (3, .int x3), (4, .int x4), (5, .ref (g a5))] := hl
  unfold m_L_way at h
  refine lv_aload hx hb dL_way_0 (lv_at hl 5 rfl) ?_
  refine lv_iconst (v := 0) hx hb dL_way_2 (by decide) ?_
  refine lv_aload_n hx hb dL_way_3 rfl (lv_at hl 0 rfl) ?_
  refine lv_iload_n hx hb dL_way_4 rfl (lv_at hl 1 rfl) ?_
  refine lv_iload_n hx hb dL_way_5 rfl (lv_at hl 2 rfl) ?_
  refine lv_iload_n hx hb dL_way_6 rfl (lv_at hl 3 rfl) ?_
  refine lv_iload hx hb dL_way_7 (lv_at hl 4 rfl) ?_
  obtain ⟨o8, hc7, hL9, hR10⟩ := lb_e h
  refine kl_i (x_runV F hG (c_X5_way l D ca g hst ha0 hc7) (kd_lt ha0 (by decide)) (gd5 ha0) rfl (kw524 F.kd) (kw525 F.kd) (kw526 F.kd) (kw1 F.kd) (kw527 F.kd) yd_X5_way ⟨Nat.le_of_ble_eq_true rfl, Nat.le_of_ble_eq_true rfl⟩ rfl hl.1 rfl (Nat.le_of_ble_eq_true rfl) dL_way_9 ⟨Nat.le_of_ble_eq_true rfl, Nat.le_of_ble_eq_true rfl⟩) hG (fun k13 H locs q ce eo11 hG hce hcv hcl => ?_) (fun M15 r12 H locs eo11 hG => ?_)
  · have h := hL9 _ eo11
    by_cases c14 : k13 = 1
    · have h := ite_t h c14
      subst c14
      refine vx_catch (own := RL) (name := xI) (E := xI) F.2.2.2.1 (tableOf []) _ (tableOf []) htab (fun z hz => nomatch hz) (by decide) (by decide) (kw293 F.kd) (kw304 F.kd) hce hcv hcl ?_
      refine lv_astore (lv' := [(6, .ref q), (0, .ref (g a0)), (1, .int x1), (2, .int x2), (3, .int x3), (4, .int x4), (5, .ref (g a5))]) hx hb dL_way_17 hl (by decide) rfl (fun ls hl => ?_)
      refine lv_iconst (v := 1) hx hb dL_way_19 (by decide) ?_
      obtain ⟨rfl, rfl⟩ := som2 h
      exact W.widen (k := 2) (n := 12) (Nat.le_of_ble_eq_true rfl) (Nat.le_of_ble_eq_true rfl) (end_i F hr hlk hG dL_way_20)
    have h := ite_f h c14
    cases h
  · have h := hR10 _ eo11
    have h := up2_e h
    refine lv_i2l (v := (r12 : Int32).toInt64) hx hb dL_way_12 rfl ?_
    obtain ⟨M16, eM16, h⟩ := mlet_e h
    refine r_last F hG ha5 (x := r12) rfl eM16 dL_way_13 (fun H locs hG => ?_)
    refine lv_goto (tgt := 21) hx hb dL_way_14 (by decide) ?_
    refine lv_iconst (v := 0) hx hb dL_way_21 (by decide) ?_
    obtain ⟨rfl, rfl⟩ := som2 h
    exact W.widen (k := 2) (n := 12) (Nat.le_of_ble_eq_true rfl) (Nat.le_of_ble_eq_true rfl) (end_i F hr hlk hG dL_way_22)
set_option maxHeartbeats 4000000 in
set_option maxRecDepth 100000 in
theorem c_L_pass (l : Launch) (D : va_G) (ca : vCA) (g : Nat → Nat) (hst : l.stackTraces = false) {fu : Nat} {M : Mem} {a0 : Nat} {x1 : Int32} {a2 : Nat} {M' : Mem} {r : Int32} (ha0 : kd a0 = 5) (ha2 : kd a2 = 11) (h : m_L_pass fu M a0 x1 a2 = some (M', r)) : cMH l yL_pass cL_pass 4 (some .int) [(0, 9, 12, 21)] { frames := 8, cells := 1, slots := 6, locals := 140 } D ca g M [.ref (g a0), .int x1, .ref (g a2)] (fun sz => cQi D ca g sz M' r) := by
  refine mk_MetH (by decide) (Nat.le_of_ble_eq_true rfl) ?_
  intro p e s m below meth c F hr hlk htab hG ls hl
  have hx := F.1
  have hb := F.2.1
  replace hl : lv_has ls 4 [(0, .ref (g a0)), (1, .int x1), (2, .ref (g a2))] := hl
  unfold m_L_pass at h
  refine lv_aload_n hx hb dL_pass_0 rfl (lv_at hl 2 rfl) ?_
  refine lv_iconst (v := 0) hx hb dL_pass_1 (by decide) ?_
  refine lv_aload_n hx hb dL_pass_2 rfl (lv_at hl 0 rfl) ?_
  refine lv_iload_n hx hb dL_pass_3 rfl (lv_at hl 1 rfl) ?_
  obtain ⟨o5, hc4, hL6, hR7⟩ := lb_e h
  refine kl_i (x_runV F hG (c_X5_pass l D ca g hst ha0 hc4) (kd_lt ha0 (by decide)) (gd5 ha0) rfl (kw538 F.kd) (kw539 F.kd) (kw540 F.kd) (kw1 F.kd) (kw541 F.kd) yd_X5_pass ⟨Nat.le_of_ble_eq_true rfl, Nat.le_of_ble_eq_true rfl⟩ rfl hl.1 rfl (Nat.le_of_ble_eq_true rfl) dL_pass_4 ⟨Nat.le_of_ble_eq_true rfl, Nat.le_of_ble_eq_true rfl⟩) hG (fun k10 H locs q ce eo8 hG hce hcv hcl => ?_) (fun M12 r9 H locs eo8 hG => ?_)
  · have h := hL6 _ eo8
    by_cases c11 : k10 = 3
    · have h := ite_t h c11
      subst c11
      refine vx_catch (own := RL) (name := xA) (E := xA) F.2.2.2.1 (tableOf []) _ (tableOf []) htab (fun z hz => nomatch hz) (by decide) (by decide) (kw398 F.kd) (kw405 F.kd) hce hcv hcl ?_
      refine lv_astore_n (lv' := [(3, .ref q), (0, .ref (g a0)), (1, .int x1), (2, .ref (g a2))]) hx hb dL_pass_12 rfl hl (by decide) rfl (fun ls hl => ?_)
      refine lv_iconst (v := 1) hx hb dL_pass_13 (by decide) ?_
      obtain ⟨rfl, rfl⟩ := som2 h
      exact W.widen (k := 1) (n := 6) (Nat.le_of_ble_eq_true rfl) (Nat.le_of_ble_eq_true rfl) (end_i F hr hlk hG dL_pass_14)
    have h := ite_f h c11
    cases h
  · have h := hR7 _ eo8
    have h := up2_e h
    refine lv_i2l (v := (r9 : Int32).toInt64) hx hb dL_pass_7 rfl ?_
    obtain ⟨M13, eM13, h⟩ := mlet_e h
    refine r_last F hG ha2 (x := r9) rfl eM13 dL_pass_8 (fun H locs hG => ?_)
    refine lv_goto (tgt := 15) hx hb dL_pass_9 (by decide) ?_
    refine lv_iconst (v := 0) hx hb dL_pass_15 (by decide) ?_
    obtain ⟨rfl, rfl⟩ := som2 h
    exact W.widen (k := 1) (n := 6) (Nat.le_of_ble_eq_true rfl) (Nat.le_of_ble_eq_true rfl) (end_i F hr hlk hG dL_pass_16)
set_option maxHeartbeats 4000000 in
set_option maxRecDepth 100000 in
theorem c_L_foresee (l : Launch) (D : va_G) (ca : vCA) (g : Nat → Nat) (hst : l.stackTraces = false) {fu : Nat} {M : Mem} {a0 : Nat} {x1 : Int32} {x2 : Int32} {a3 : Nat} {M' : Mem} {r : Int32} (ha0 : kd a0 = 5) (ha3 : kd a3 = 11) (h : m_L_foresee fu M a0 x1 x2 a3 = some (M', r)) : cMH l yL_foresee cL_foresee 5 (some .int) [(0, 10, 13, 21), (0, 10, 17, 13)] { frames := 8, cells := 2, slots := 12, locals := 140 } D ca g M [.ref (g a0), .int x1, .int x2, .ref (g a3)] (fun sz => cQi D ca g sz M' r) := by
  refine mk_MetH (by decide) (Nat.le_of_ble_eq_true rfl) ?_
  intro p e s m below meth c F hr hlk htab hG ls hl
  have hx := F.1
  have hb := F.2.1
  replace hl : lv_has ls 5 [(0, .ref (g a0)), (1, .int x1), (2, .int x2), (3, .ref (g a3))] := hl
  unfold m_L_foresee at h
  refine lv_aload_n hx hb dL_foresee_0 rfl (lv_at hl 3 rfl) ?_
  refine lv_iconst (v := 0) hx hb dL_foresee_1 (by decide) ?_
  refine lv_aload_n hx hb dL_foresee_2 rfl (lv_at hl 0 rfl) ?_
  refine lv_iload_n hx hb dL_foresee_3 rfl (lv_at hl 1 rfl) ?_
  refine lv_iload_n hx hb dL_foresee_4 rfl (lv_at hl 2 rfl) ?_
  obtain ⟨o6, hc5, hL7, hR8⟩ := lb_e h
  refine kl_i (x_runV F hG (c_X5_foresee l D ca g hst ha0 hc5) (kd_lt ha0 (by decide)) (gd5 ha0) rfl (kw595 F.kd) (kw596 F.kd) (kw597 F.kd) (kw1 F.kd) (kw598 F.kd) yd_X5_foresee ⟨Nat.le_of_ble_eq_true rfl, Nat.le_of_ble_eq_true rfl⟩ rfl hl.1 rfl (Nat.le_of_ble_eq_true rfl) dL_foresee_5 ⟨Nat.le_of_ble_eq_true rfl, Nat.le_of_ble_eq_true rfl⟩) hG (fun k11 H locs q ce eo9 hG hce hcv hcl => ?_) (fun M13 r10 H locs eo9 hG => ?_)
  · have h := hL7 _ eo9
    by_cases c12 : k11 = 3
    · have h := ite_t h c12
      subst c12
      refine vx_catch (own := RL) (name := xA) (E := xA) F.2.2.2.1 (tableOf []) _ (tableOf [(0, 10, 17, 13)]) htab (fun z hz => nomatch hz) (by decide) (by decide) (kw398 F.kd) (kw405 F.kd) hce hcv hcl ?_
      refine lv_astore (lv' := [(4, .ref q), (0, .ref (g a0)), (1, .int x1), (2, .int x2), (3, .ref (g a3))]) hx hb dL_foresee_13 hl (by decide) rfl (fun ls hl => ?_)
      refine lv_iconst (v := 1) hx hb dL_foresee_15 (by decide) ?_
      obtain ⟨rfl, rfl⟩ := som2 h
      exact W.widen (k := 2) (n := 12) (Nat.le_of_ble_eq_true rfl) (Nat.le_of_ble_eq_true rfl) (end_i F hr hlk hG dL_foresee_16)
    have h := ite_f h c12
    by_cases c12 : k11 = 1
    · have h := ite_t h c12
      subst c12
      refine vx_catch (own := RL) (name := xI) (E := xI) F.2.2.2.1 (tableOf [(0, 10, 13, 21)]) _ (tableOf []) htab (fun z hz => by
          rcases List.mem_cons.mp hz with rfl | hz
          · exact Or.inr ⟨by decide, xA, kw398 F.kd, F.kx.2.2.2.1 (xI, xA) (by decide)⟩
          exact absurd hz List.not_mem_nil) (by decide) (by decide) (kw293 F.kd) (kw304 F.kd) hce hcv hcl ?_
      refine lv_astore (lv' := [(4, .ref q), (0, .ref (g a0)), (1, .int x1), (2, .int x2), (3, .ref (g a3))]) hx hb dL_foresee_17 hl (by decide) rfl (fun ls hl => ?_)
      refine lv_iconst (v := 2) hx hb dL_foresee_19 (by decide) ?_
      obtain ⟨rfl, rfl⟩ := som2 h
      exact W.widen (k := 2) (n := 12) (Nat.le_of_ble_eq_true rfl) (Nat.le_of_ble_eq_true rfl) (end_i F hr hlk hG dL_foresee_20)
    have h := ite_f h c12
    cases h
  · have h := hR8 _ eo9
    have h := up2_e h
    refine lv_i2l (v := (r10 : Int32).toInt64) hx hb dL_foresee_8 rfl ?_
    obtain ⟨M14, eM14, h⟩ := mlet_e h
    refine r_last F hG ha3 (x := r10) rfl eM14 dL_foresee_9 (fun H locs hG => ?_)
    refine lv_goto (tgt := 21) hx hb dL_foresee_10 (by decide) ?_
    refine lv_iconst (v := 0) hx hb dL_foresee_21 (by decide) ?_
    obtain ⟨rfl, rfl⟩ := som2 h
    exact W.widen (k := 2) (n := 12) (Nat.le_of_ble_eq_true rfl) (Nat.le_of_ble_eq_true rfl) (end_i F hr hlk hG dL_foresee_22)
set_option maxHeartbeats 4000000 in
set_option maxRecDepth 100000 in
theorem c_L_advise (l : Launch) (D : va_G) (ca : vCA) (g : Nat → Nat) (hst : l.stackTraces = false) {fu : Nat} {M : Mem} {a0 : Nat} {x1 : Int32} {a2 : Nat} {M' : Mem} {r : Int32} (ha0 : kd a0 = 5) (ha2 : kd a2 = 11) (h : m_L_advise fu M a0 x1 a2 = some (M', r)) : cMH l yL_advise cL_advise 4 (some .int) [(0, 9, 12, 13)] { frames := 8, cells := 1, slots := 6, locals := 165 } D ca g M [.ref (g a0), .int x1, .ref (g a2)] (fun sz => cQi D ca g sz M' r) := by
  refine mk_MetH (by decide) (Nat.le_of_ble_eq_true rfl) ?_
  intro p e s m below meth c F hr hlk htab hG ls hl
  have hx := F.1
  have hb := F.2.1
  replace hl : lv_has ls 4 [(0, .ref (g a0)), (1, .int x1), (2, .ref (g a2))] := hl
  unfold m_L_advise at h
  refine lv_aload_n hx hb dL_advise_0 rfl (lv_at hl 2 rfl) ?_
  refine lv_iconst (v := 0) hx hb dL_advise_1 (by decide) ?_
  refine lv_aload_n hx hb dL_advise_2 rfl (lv_at hl 0 rfl) ?_
  refine lv_iload_n hx hb dL_advise_3 rfl (lv_at hl 1 rfl) ?_
  obtain ⟨o5, hc4, hL6, hR7⟩ := lb_e h
  refine kl_i (x_runV F hG (c_X5_advise l D ca g hst ha0 hc4) (kd_lt ha0 (by decide)) (gd5 ha0) rfl (kw620 F.kd) (kw621 F.kd) (kw622 F.kd) (kw1 F.kd) (kw623 F.kd) yd_X5_advise ⟨Nat.le_of_ble_eq_true rfl, Nat.le_of_ble_eq_true rfl⟩ rfl hl.1 rfl (Nat.le_of_ble_eq_true rfl) dL_advise_4 ⟨Nat.le_of_ble_eq_true rfl, Nat.le_of_ble_eq_true rfl⟩) hG (fun k10 H locs q ce eo8 hG hce hcv hcl => ?_) (fun M12 r9 H locs eo8 hG => ?_)
  · have h := hL6 _ eo8
    by_cases c11 : k10 = 1
    · have h := ite_t h c11
      subst c11
      refine vx_catch (own := RL) (name := xI) (E := xI) F.2.2.2.1 (tableOf []) _ (tableOf []) htab (fun z hz => nomatch hz) (by decide) (by decide) (kw293 F.kd) (kw304 F.kd) hce hcv hcl ?_
      refine lv_astore_n (lv' := [(3, .ref q), (0, .ref (g a0)), (1, .int x1), (2, .ref (g a2))]) hx hb dL_advise_12 rfl hl (by decide) rfl (fun ls hl => ?_)
      refine lv_iconst (v := 1) hx hb dL_advise_13 (by decide) ?_
      obtain ⟨rfl, rfl⟩ := som2 h
      exact W.widen (k := 1) (n := 6) (Nat.le_of_ble_eq_true rfl) (Nat.le_of_ble_eq_true rfl) (end_i F hr hlk hG dL_advise_14)
    have h := ite_f h c11
    cases h
  · have h := hR7 _ eo8
    have h := up2_e h
    refine lv_i2l (v := (r9 : Int32).toInt64) hx hb dL_advise_7 rfl ?_
    obtain ⟨M13, eM13, h⟩ := mlet_e h
    refine r_last F hG ha2 (x := r9) rfl eM13 dL_advise_8 (fun H locs hG => ?_)
    refine lv_goto (tgt := 15) hx hb dL_advise_9 (by decide) ?_
    refine lv_iconst (v := 0) hx hb dL_advise_15 (by decide) ?_
    obtain ⟨rfl, rfl⟩ := som2 h
    exact W.widen (k := 1) (n := 6) (Nat.le_of_ble_eq_true rfl) (Nat.le_of_ble_eq_true rfl) (end_i F hr hlk hG dL_advise_16)

set_option maxHeartbeats 4000000 in
set_option maxRecDepth 100000 in
theorem c_X5_crowd (l : Launch) (D : va_G) (ca : vCA) (g : Nat → Nat) (hst : l.stackTraces = false) {fu : Nat} {M : Mem} {a0 : Nat} {x1 : Int32} {x2 : Int32} {o : Nat ⊕ (Int32)} (ha0 : kd a0 = 5) (h : m_X5_crowd fu M a0 x1 x2 = some o) : xM l yX5_crowd cX5_crowd 3 (some .int) { frames := 7, cells := 2, slots := 12, locals := 111 } D ca g M [.ref (g a0), .int x1, .int x2] (fun sz => xQp D ca g sz M o) o := by
  refine mk_xMet (by decide) (Nat.le_of_ble_eq_true rfl) ?_
  intro p e s m below meth c F hr hlk htab hG ls hl
  have hx := F.1
  have hb := F.2.1
  replace hl : lv_has ls 3 [(0, .ref (g a0)), (1, .int x1), (2, .int x2)] := hl
  unfold m_X5_crowd at h
  refine lv_aload_n hx hb dX5_crowd_0 rfl (lv_at hl 0 rfl) ?_
  refine lv_iload_n hx hb dX5_crowd_1 rfl (lv_at hl 1 rfl) ?_
  obtain ⟨o5, hc4, hL6, hR7⟩ := xb_e h
  refine kx_v (x_runV F hG (c_X5_needCrowd l D ca g hst ha0 hc4) (kd_lt ha0 (by decide)) (gd5 ha0) rfl (kw102 F.kd) (kw104 F.kd) (ks_X5_needCrowd F.kd) (kw1 F.kd) (kw106 F.kd) yd_X5_needCrowd ⟨Nat.le_of_ble_eq_true rfl, Nat.le_of_ble_eq_true rfl⟩ rfl hl.1 rfl (Nat.le_of_ble_eq_true rfl) dX5_crowd_2 ⟨Nat.le_of_ble_eq_true rfl, Nat.le_of_ble_eq_true rfl⟩) hG htab hlk hL6 (Nat.le_of_ble_eq_true rfl) (Nat.le_of_ble_eq_true rfl) (fun H locs eo8 hG => ?_)
  have h := hR7 _ eo8
  refine lv_iload_n hx hb dX5_crowd_5 rfl (lv_at hl 2 rfl) ?_
  refine lv_bipush (v := 8) hx hb dX5_crowd_6 (by decide) ?_
  obtain ⟨o10, hc9, hL11, hR12⟩ := xb_e h
  refine kx_v (x_runS F hG (c_X5_needWhat l D ca g hst hc9) (kw108 F.kd) (kw109 F.kd) (kw1 F.kd) (kw110 F.kd) yd_X5_needWhat ⟨Nat.le_of_ble_eq_true rfl, Nat.le_of_ble_eq_true rfl⟩ rfl hl.1 rfl (Nat.le_of_ble_eq_true rfl) dX5_crowd_8 ⟨Nat.le_of_ble_eq_true rfl, Nat.le_of_ble_eq_true rfl⟩) hG htab hlk hL11 (Nat.le_of_ble_eq_true rfl) (Nat.le_of_ble_eq_true rfl) (fun H locs eo13 hG => ?_)
  have h := hR12 _ eo13
  refine lv_aload_n hx hb dX5_crowd_11 rfl (lv_at hl 0 rfl) ?_
  have hk14 := (show kd 0 = 1 from rfl)
  refine xg5 F hG ha0 0 (by decide) (kw508 F.kd) (v := .ref (g 0)) rfl dX5_crowd_12 ?_
  refine lv_aload_n hx hb dX5_crowd_15 rfl (lv_at hl 0 rfl) ?_
  have hk15 := (show kd 0 = 1 from rfl)
  refine xg5 F hG ha0 0 (by decide) (kw508 F.kd) (v := .ref (g 0)) rfl dX5_crowd_16 ?_
  have hk16 := kt_crowds hk15
  refine xg1N F hG hk15 1 (by decide) (kw469 F.kd) (v := .ref (g (0 + 3))) rfl dX5_crowd_19 ?_
  refine lv_iload_n hx hb dX5_crowd_22 rfl (lv_at hl 1 rfl) ?_
  obtain ⟨hi17, h⟩ := chk_e h
  have hk18 := kt_elC hk16 hi17
  refine r_aldC F hG hk16 hi17 dX5_crowd_23 ?_
  refine lv_iload_n hx hb dX5_crowd_24 rfl (lv_at hl 2 rfl) ?_
  obtain ⟨r20, hc19, h⟩ := cb1_e h
  refine k_i (r_runVN F hG (c_X1_crowdNumber l D ca g hk14 hk18 hc19) (kd_lt hk14 (by decide)) (gd1 hk14) rfl (kw112 F.kd) (kw114 F.kd) (ks_X1_crowdNumber F.kd) (kw2 F.kd) (kw116 F.kd) yd_X1_crowdNumber ⟨Nat.le_of_ble_eq_true rfl, Nat.le_of_ble_eq_true rfl⟩ rfl hl.1 rfl (Nat.le_of_ble_eq_true rfl) dX5_crowd_25 ⟨Nat.le_of_ble_eq_true rfl, Nat.le_of_ble_eq_true rfl⟩) hG (fun H locs hG => ?_)
  obtain rfl := som1 h
  exact xend_p F hr hlk rfl hG dX5_crowd_28 (Nat.le_of_ble_eq_true rfl) (Nat.le_of_ble_eq_true rfl)
set_option maxHeartbeats 4000000 in
set_option maxRecDepth 100000 in
theorem c_X5_guard (l : Launch) (D : va_G) (ca : vCA) (g : Nat → Nat) (hst : l.stackTraces = false) {fu : Nat} {M : Mem} {a0 : Nat} {x1 : Int32} {x2 : Int32} {o : Nat ⊕ (Int32)} (ha0 : kd a0 = 5) (h : m_X5_guard fu M a0 x1 x2 = some o) : xM l yX5_guard cX5_guard 3 (some .int) { frames := 7, cells := 2, slots := 12, locals := 111 } D ca g M [.ref (g a0), .int x1, .int x2] (fun sz => xQp D ca g sz M o) o := by
  refine mk_xMet (by decide) (Nat.le_of_ble_eq_true rfl) ?_
  intro p e s m below meth c F hr hlk htab hG ls hl
  have hx := F.1
  have hb := F.2.1
  replace hl : lv_has ls 3 [(0, .ref (g a0)), (1, .int x1), (2, .int x2)] := hl
  unfold m_X5_guard at h
  refine lv_aload_n hx hb dX5_guard_0 rfl (lv_at hl 0 rfl) ?_
  refine lv_iload_n hx hb dX5_guard_1 rfl (lv_at hl 1 rfl) ?_
  obtain ⟨o5, hc4, hL6, hR7⟩ := xb_e h
  refine kx_v (x_runV F hG (c_X5_needPatrol l D ca g hst ha0 hc4) (kd_lt ha0 (by decide)) (gd5 ha0) rfl (kw145 F.kd) (kw147 F.kd) (ks_X5_needPatrol F.kd) (kw1 F.kd) (kw148 F.kd) yd_X5_needPatrol ⟨Nat.le_of_ble_eq_true rfl, Nat.le_of_ble_eq_true rfl⟩ rfl hl.1 rfl (Nat.le_of_ble_eq_true rfl) dX5_guard_2 ⟨Nat.le_of_ble_eq_true rfl, Nat.le_of_ble_eq_true rfl⟩) hG htab hlk hL6 (Nat.le_of_ble_eq_true rfl) (Nat.le_of_ble_eq_true rfl) (fun H locs eo8 hG => ?_)
  have h := hR7 _ eo8
  refine lv_iload_n hx hb dX5_guard_5 rfl (lv_at hl 2 rfl) ?_
  refine lv_iconst (v := 4) hx hb dX5_guard_6 (by decide) ?_
  obtain ⟨o10, hc9, hL11, hR12⟩ := xb_e h
  refine kx_v (x_runS F hG (c_X5_needWhat l D ca g hst hc9) (kw108 F.kd) (kw109 F.kd) (kw1 F.kd) (kw110 F.kd) yd_X5_needWhat ⟨Nat.le_of_ble_eq_true rfl, Nat.le_of_ble_eq_true rfl⟩ rfl hl.1 rfl (Nat.le_of_ble_eq_true rfl) dX5_guard_7 ⟨Nat.le_of_ble_eq_true rfl, Nat.le_of_ble_eq_true rfl⟩) hG htab hlk hL11 (Nat.le_of_ble_eq_true rfl) (Nat.le_of_ble_eq_true rfl) (fun H locs eo13 hG => ?_)
  have h := hR12 _ eo13
  refine lv_aload_n hx hb dX5_guard_10 rfl (lv_at hl 0 rfl) ?_
  have hk14 := (show kd 0 = 1 from rfl)
  refine xg5 F hG ha0 0 (by decide) (kw508 F.kd) (v := .ref (g 0)) rfl dX5_guard_11 ?_
  refine lv_aload_n hx hb dX5_guard_14 rfl (lv_at hl 0 rfl) ?_
  have hk15 := (show kd 0 = 1 from rfl)
  refine xg5 F hG ha0 0 (by decide) (kw508 F.kd) (v := .ref (g 0)) rfl dX5_guard_15 ?_
  have hk16 := kt_patrols hk15
  refine xg1N F hG hk15 3 (by decide) (kw473 F.kd) (v := .ref (g (0 + 4))) rfl dX5_guard_18 ?_
  refine lv_iload_n hx hb dX5_guard_21 rfl (lv_at hl 1 rfl) ?_
  obtain ⟨hi17, h⟩ := chk_e h
  have hk18 := kt_elP hk16 hi17
  refine r_aldP F hG hk16 hi17 dX5_guard_22 ?_
  refine lv_iload_n hx hb dX5_guard_23 rfl (lv_at hl 2 rfl) ?_
  obtain ⟨r20, hc19, h⟩ := cb1_e h
  refine k_i (r_runVN F hG (c_X1_guardNumber l D ca g hk14 hk18 hc19) (kd_lt hk14 (by decide)) (gd1 hk14) rfl (kw150 F.kd) (kw152 F.kd) (ks_X1_guardNumber F.kd) (kw2 F.kd) (kw153 F.kd) yd_X1_guardNumber ⟨Nat.le_of_ble_eq_true rfl, Nat.le_of_ble_eq_true rfl⟩ rfl hl.1 rfl (Nat.le_of_ble_eq_true rfl) dX5_guard_24 ⟨Nat.le_of_ble_eq_true rfl, Nat.le_of_ble_eq_true rfl⟩) hG (fun H locs hG => ?_)
  obtain rfl := som1 h
  exact xend_p F hr hlk rfl hG dX5_guard_27 (Nat.le_of_ble_eq_true rfl) (Nat.le_of_ble_eq_true rfl)
set_option maxHeartbeats 4000000 in
set_option maxRecDepth 100000 in
theorem c_X5_sees (l : Launch) (D : va_G) (ca : vCA) (g : Nat → Nat) (hst : l.stackTraces = false) {fu : Nat} {M : Mem} {a0 : Nat} {x1 : Int32} {x2 : Int32} {o : Nat ⊕ (Int32)} (ha0 : kd a0 = 5) (h : m_X5_sees fu M a0 x1 x2 = some o) : xM l yX5_sees cX5_sees 3 (some .boolean) { frames := 7, cells := 2, slots := 12, locals := 111 } D ca g M [.ref (g a0), .int x1, .int x2] (fun sz => xQp D ca g sz M o) o := by
  refine mk_xMet (by decide) (Nat.le_of_ble_eq_true rfl) ?_
  intro p e s m below meth c F hr hlk htab hG ls hl
  have hx := F.1
  have hb := F.2.1
  replace hl : lv_has ls 3 [(0, .ref (g a0)), (1, .int x1), (2, .int x2)] := hl
  unfold m_X5_sees at h
  refine lv_aload_n hx hb dX5_sees_0 rfl (lv_at hl 0 rfl) ?_
  refine lv_iload_n hx hb dX5_sees_1 rfl (lv_at hl 1 rfl) ?_
  obtain ⟨o5, hc4, hL6, hR7⟩ := xb_e h
  refine kx_v (x_runV F hG (c_X5_needPatrol l D ca g hst ha0 hc4) (kd_lt ha0 (by decide)) (gd5 ha0) rfl (kw145 F.kd) (kw147 F.kd) (ks_X5_needPatrol F.kd) (kw1 F.kd) (kw148 F.kd) yd_X5_needPatrol ⟨Nat.le_of_ble_eq_true rfl, Nat.le_of_ble_eq_true rfl⟩ rfl hl.1 rfl (Nat.le_of_ble_eq_true rfl) dX5_sees_2 ⟨Nat.le_of_ble_eq_true rfl, Nat.le_of_ble_eq_true rfl⟩) hG htab hlk hL6 (Nat.le_of_ble_eq_true rfl) (Nat.le_of_ble_eq_true rfl) (fun H locs eo8 hG => ?_)
  have h := hR7 _ eo8
  refine lv_aload_n hx hb dX5_sees_5 rfl (lv_at hl 0 rfl) ?_
  refine lv_iload_n hx hb dX5_sees_6 rfl (lv_at hl 2 rfl) ?_
  obtain ⟨o10, hc9, hL11, hR12⟩ := xb_e h
  refine kx_v (x_runV F hG (c_X5_needCrowd l D ca g hst ha0 hc9) (kd_lt ha0 (by decide)) (gd5 ha0) rfl (kw102 F.kd) (kw104 F.kd) (ks_X5_needCrowd F.kd) (kw1 F.kd) (kw106 F.kd) yd_X5_needCrowd ⟨Nat.le_of_ble_eq_true rfl, Nat.le_of_ble_eq_true rfl⟩ rfl hl.1 rfl (Nat.le_of_ble_eq_true rfl) dX5_sees_7 ⟨Nat.le_of_ble_eq_true rfl, Nat.le_of_ble_eq_true rfl⟩) hG htab hlk hL11 (Nat.le_of_ble_eq_true rfl) (Nat.le_of_ble_eq_true rfl) (fun H locs eo13 hG => ?_)
  have h := hR12 _ eo13
  refine lv_aload_n hx hb dX5_sees_10 rfl (lv_at hl 0 rfl) ?_
  have hk14 := (show kd 0 = 1 from rfl)
  refine xg5 F hG ha0 0 (by decide) (kw508 F.kd) (v := .ref (g 0)) rfl dX5_sees_11 ?_
  refine lv_aload_n hx hb dX5_sees_14 rfl (lv_at hl 0 rfl) ?_
  have hk15 := (show kd 0 = 1 from rfl)
  refine xg5 F hG ha0 0 (by decide) (kw508 F.kd) (v := .ref (g 0)) rfl dX5_sees_15 ?_
  have hk16 := kt_patrols hk15
  refine xg1N F hG hk15 3 (by decide) (kw473 F.kd) (v := .ref (g (0 + 4))) rfl dX5_sees_18 ?_
  refine lv_iload_n hx hb dX5_sees_21 rfl (lv_at hl 1 rfl) ?_
  obtain ⟨hi17, h⟩ := chk_e h
  have hk18 := kt_elP hk16 hi17
  refine r_aldP F hG hk16 hi17 dX5_sees_22 ?_
  refine lv_aload_n hx hb dX5_sees_23 rfl (lv_at hl 0 rfl) ?_
  have hk19 := (show kd 0 = 1 from rfl)
  refine xg5 F hG ha0 0 (by decide) (kw508 F.kd) (v := .ref (g 0)) rfl dX5_sees_24 ?_
  have hk20 := kt_crowds hk19
  refine xg1N F hG hk19 1 (by decide) (kw469 F.kd) (v := .ref (g (0 + 3))) rfl dX5_sees_27 ?_
  refine lv_iload_n hx hb dX5_sees_30 rfl (lv_at hl 2 rfl) ?_
  obtain ⟨hi21, h⟩ := chk_e h
  have hk22 := kt_elC hk20 hi21
  refine r_aldC F hG hk20 hi21 dX5_sees_31 ?_
  obtain ⟨r24, hc23, h⟩ := cb1_e h
  refine k_i (r_runVN F hG (c_X1_isSeen l D ca g hk14 hk18 hk22 hc23) (kd_lt hk14 (by decide)) (gd1 hk14) rfl (kw602 F.kd) (kw128 F.kd) (ks_X1_isSeen F.kd) (kw2 F.kd) (kw129 F.kd) yd_X1_isSeen ⟨Nat.le_of_ble_eq_true rfl, Nat.le_of_ble_eq_true rfl⟩ rfl hl.1 rfl (Nat.le_of_ble_eq_true rfl) dX5_sees_32 ⟨Nat.le_of_ble_eq_true rfl, Nat.le_of_ble_eq_true rfl⟩) hG (fun H locs hG => ?_)
  obtain ⟨hz25, h⟩ := chk_e h
  obtain rfl := som1 h
  exact xend_p F hr hlk (isb_nar hz25).1 hG dX5_sees_35 (Nat.le_of_ble_eq_true rfl) (Nat.le_of_ble_eq_true rfl)
set_option maxHeartbeats 4000000 in
set_option maxRecDepth 100000 in
theorem c_X5_count (l : Launch) (D : va_G) (ca : vCA) (g : Nat → Nat) (hst : l.stackTraces = false) {fu : Nat} {M : Mem} {a0 : Nat} {x1 : Int32} {o : Nat ⊕ (Int32)} (ha0 : kd a0 = 5) (h : m_X5_count fu M a0 x1 = some o) : xM l yX5_count cX5_count 2 (some .int) { frames := 7, cells := 1, slots := 6, locals := 111 } D ca g M [.ref (g a0), .int x1] (fun sz => xQp D ca g sz M o) o := by
  refine mk_xMet (by decide) (Nat.le_of_ble_eq_true rfl) ?_
  intro p e s m below meth c F hr hlk htab hG ls hl
  have hx := F.1
  have hb := F.2.1
  replace hl : lv_has ls 2 [(0, .ref (g a0)), (1, .int x1)] := hl
  unfold m_X5_count at h
  refine lv_iload_n hx hb dX5_count_0 rfl (lv_at hl 1 rfl) ?_
  refine lv_bipush (v := 8) hx hb dX5_count_1 (by decide) ?_
  obtain ⟨o4, hc3, hL5, hR6⟩ := xb_e h
  refine kx_v (x_runS F hG (c_X5_needWhat l D ca g hst hc3) (kw108 F.kd) (kw109 F.kd) (kw1 F.kd) (kw110 F.kd) yd_X5_needWhat ⟨Nat.le_of_ble_eq_true rfl, Nat.le_of_ble_eq_true rfl⟩ rfl hl.1 rfl (Nat.le_of_ble_eq_true rfl) dX5_count_3 ⟨Nat.le_of_ble_eq_true rfl, Nat.le_of_ble_eq_true rfl⟩) hG htab hlk hL5 (Nat.le_of_ble_eq_true rfl) (Nat.le_of_ble_eq_true rfl) (fun H locs eo7 hG => ?_)
  have h := hR6 _ eo7
  refine lv_aload_n hx hb dX5_count_6 rfl (lv_at hl 0 rfl) ?_
  have hk8 := (show kd 0 = 1 from rfl)
  refine xg5 F hG ha0 0 (by decide) (kw508 F.kd) (v := .ref (g 0)) rfl dX5_count_7 ?_
  refine lv_iload_n hx hb dX5_count_10 rfl (lv_at hl 1 rfl) ?_
  obtain ⟨r10, hc9, h⟩ := cb1_e h
  refine k_i (r_runVN F hG (c_X1_total l D ca g hk8 hc9) (kd_lt hk8 (by decide)) (gd1 hk8) rfl (kw167 F.kd) (kw169 F.kd) (ks_X1_total F.kd) (kw2 F.kd) (kw170 F.kd) yd_X1_total ⟨Nat.le_of_ble_eq_true rfl, Nat.le_of_ble_eq_true rfl⟩ rfl hl.1 rfl (Nat.le_of_ble_eq_true rfl) dX5_count_11 ⟨Nat.le_of_ble_eq_true rfl, Nat.le_of_ble_eq_true rfl⟩) hG (fun H locs hG => ?_)
  obtain rfl := som1 h
  exact xend_p F hr hlk rfl hG dX5_count_14 (Nat.le_of_ble_eq_true rfl) (Nat.le_of_ble_eq_true rfl)
set_option maxHeartbeats 4000000 in
set_option maxRecDepth 100000 in
theorem c_X5_way (l : Launch) (D : va_G) (ca : vCA) (g : Nat → Nat) (hst : l.stackTraces = false) {fu : Nat} {M : Mem} {a0 : Nat} {x1 : Int32} {x2 : Int32} {x3 : Int32} {x4 : Int32} {o : Nat ⊕ (Mem × Int32)} (ha0 : kd a0 = 5) (h : m_X5_way fu M a0 x1 x2 x3 x4 = some o) : xM l yX5_way cX5_way 5 (some .int) { frames := 7, cells := 2, slots := 12, locals := 111 } D ca g M [.ref (g a0), .int x1, .int x2, .int x3, .int x4] (fun sz => xQi D ca g sz o) o := by
  refine mk_xMet (by decide) (Nat.le_of_ble_eq_true rfl) ?_
  intro p e s m below meth c F hr hlk htab hG ls hl
  have hx := F.1
  have hb := F.2.1
  replace hl : lv_has ls 5 [(0, .ref (g a0)), (1, .int x1), (2, .int x2), (3, .int x3), (4, .int x4)] := hl
  unfold m_X5_way at h
  refine lv_aload_n hx hb dX5_way_0 rfl (lv_at hl 0 rfl) ?_
  have hk6 := (show kd 41 = 4 from rfl)
  refine xg5 F hG ha0 2 (by decide) (kw510 F.kd) (v := .ref (g 41)) rfl dX5_way_1 ?_
  refine lv_aload_n hx hb dX5_way_4 rfl (lv_at hl 0 rfl) ?_
  have hk7 := (show kd 0 = 1 from rfl)
  refine xg5 F hG ha0 0 (by decide) (kw508 F.kd) (v := .ref (g 0)) rfl dX5_way_5 ?_
  have hk8 := kt_quarter hk7
  refine xg1N F hG hk7 0 (by decide) (kw467 F.kd) (v := .ref (g (0 + 1))) rfl dX5_way_8 ?_
  refine lv_iload_n hx hb dX5_way_11 rfl (lv_at hl 1 rfl) ?_
  refine lv_iload_n hx hb dX5_way_12 rfl (lv_at hl 2 rfl) ?_
  obtain ⟨o10, hc9, hL11, hR12⟩ := xb_e h
  refine kx_p (x_runS F hG (c_X5_placeOf l D ca g hst hc9) (kw20 F.kd) (kw21 F.kd) (kw1 F.kd) (kw22 F.kd) yd_X5_placeOf ⟨Nat.le_of_ble_eq_true rfl, Nat.le_of_ble_eq_true rfl⟩ rfl hl.1 rfl (Nat.le_of_ble_eq_true rfl) dX5_way_13 ⟨Nat.le_of_ble_eq_true rfl, Nat.le_of_ble_eq_true rfl⟩) hG htab hlk hL11 (Nat.le_of_ble_eq_true rfl) (Nat.le_of_ble_eq_true rfl) (fun r14 H locs eo13 hG => ?_)
  have h := hR12 _ eo13
  refine lv_iload_n hx hb dX5_way_16 rfl (lv_at hl 3 rfl) ?_
  refine lv_iload hx hb dX5_way_17 (lv_at hl 4 rfl) ?_
  obtain ⟨o16, hc15, hL17, hR18⟩ := xb_e h
  refine kx_p (x_runS F hG (c_X5_placeOf l D ca g hst hc15) (kw20 F.kd) (kw21 F.kd) (kw1 F.kd) (kw22 F.kd) yd_X5_placeOf ⟨Nat.le_of_ble_eq_true rfl, Nat.le_of_ble_eq_true rfl⟩ rfl hl.1 rfl (Nat.le_of_ble_eq_true rfl) dX5_way_19 ⟨Nat.le_of_ble_eq_true rfl, Nat.le_of_ble_eq_true rfl⟩) hG htab hlk hL17 (Nat.le_of_ble_eq_true rfl) (Nat.le_of_ble_eq_true rfl) (fun r20 H locs eo19 hG => ?_)
  have h := hR18 _ eo19
  obtain ⟨M23, r22, hc21, h⟩ := cb2_e h
  refine k_i (r_runVN F hG (c_X4_fewestSteps l D ca g hk6 hk8 hc21) (kd_lt hk6 (by decide)) (gd4 hk6) rfl (kw195 F.kd) (kw197 F.kd) (ks_X4_fewestSteps F.kd) (kw6 F.kd) (kw199 F.kd) yd_X4_fewestSteps ⟨Nat.le_of_ble_eq_true rfl, Nat.le_of_ble_eq_true rfl⟩ rfl hl.1 rfl (Nat.le_of_ble_eq_true rfl) dX5_way_22 ⟨Nat.le_of_ble_eq_true rfl, Nat.le_of_ble_eq_true rfl⟩) hG (fun H locs hG => ?_)
  obtain rfl := som1 h
  exact xend_i F hr hlk rfl hG dX5_way_25 (Nat.le_of_ble_eq_true rfl) (Nat.le_of_ble_eq_true rfl)
set_option maxHeartbeats 4000000 in
set_option maxRecDepth 100000 in
theorem c_X5_pass (l : Launch) (D : va_G) (ca : vCA) (g : Nat → Nat) (hst : l.stackTraces = false) {fu : Nat} {M : Mem} {a0 : Nat} {x1 : Int32} {o : Nat ⊕ (Mem × Int32)} (ha0 : kd a0 = 5) (h : m_X5_pass fu M a0 x1 = some o) : xM l yX5_pass cX5_pass 3 (some .int) { frames := 7, cells := 1, slots := 6, locals := 118 } D ca g M [.ref (g a0), .int x1] (fun sz => xQi D ca g sz o) o := by
  refine mk_xMet (by decide) (Nat.le_of_ble_eq_true rfl) ?_
  intro p e s m below meth c F hr hlk htab hG ls hl
  have hx := F.1
  have hb := F.2.1
  replace hl : lv_has ls 3 [(0, .ref (g a0)), (1, .int x1)] := hl
  unfold m_X5_pass at h
  refine lv_iload_n hx hb dX5_pass_0 rfl (lv_at hl 1 rfl) ?_
  obtain ⟨o4, hc3, hL5, hR6⟩ := xb_e h
  refine kx_v (x_runS F hG (c_X5_needSteps l D ca g hst hc3) (kw247 F.kd) (kw248 F.kd) (kw1 F.kd) (kw249 F.kd) yd_X5_needSteps ⟨Nat.le_of_ble_eq_true rfl, Nat.le_of_ble_eq_true rfl⟩ rfl hl.1 rfl (Nat.le_of_ble_eq_true rfl) dX5_pass_1 ⟨Nat.le_of_ble_eq_true rfl, Nat.le_of_ble_eq_true rfl⟩) hG htab hlk hL5 (Nat.le_of_ble_eq_true rfl) (Nat.le_of_ble_eq_true rfl) (fun H locs eo7 hG => ?_)
  have h := hR6 _ eo7
  refine lv_aload_n hx hb dX5_pass_4 rfl (lv_at hl 0 rfl) ?_
  have hk8 := (show kd 0 = 1 from rfl)
  refine xg5 F hG ha0 0 (by decide) (kw508 F.kd) (v := .ref (g 0)) rfl dX5_pass_5 ?_
  obtain ⟨r10, hc9, h⟩ := cb1_e h
  refine k_i (r_runVN F hG (c_X1_peopleLeft l D ca g hk8 hc9) (kd_lt hk8 (by decide)) (gd1 hk8) rfl (kw266 F.kd) (kw185 F.kd) (ks_X1_peopleLeft F.kd) (kw2 F.kd) (kw186 F.kd) yd_X1_peopleLeft ⟨Nat.le_of_ble_eq_true rfl, Nat.le_of_ble_eq_true rfl⟩ rfl hl.1 rfl (Nat.le_of_ble_eq_true rfl) dX5_pass_8 ⟨Nat.le_of_ble_eq_true rfl, Nat.le_of_ble_eq_true rfl⟩) hG (fun H locs hG => ?_)
  refine lv_istore_n (lv' := [(2, .int r10), (0, .ref (g a0)), (1, .int x1)]) hx hb dX5_pass_11 rfl hl (by decide) rfl (fun ls hl => ?_)
  refine lv_aload_n hx hb dX5_pass_12 rfl (lv_at hl 1 rfl) ?_
  have hk11 := (show kd 0 = 1 from rfl)
  refine xg5 F hG ha0 0 (by decide) (kw508 F.kd) (v := .ref (g 0)) rfl dX5_pass_13 ?_
  refine lv_iload_n hx hb dX5_pass_16 rfl (lv_at hl 2 rfl) ?_
  obtain ⟨M14, hc12, h⟩ := cb1_e h
  refine k_v (r_runVN F hG (c_X1_goOn l D ca g hk11 hc12) (kd_lt hk11 (by decide)) (gd1 hk11) rfl (kw267 F.kd) (kw269 F.kd) (ks_X1_goOn F.kd) (kw2 F.kd) (kw270 F.kd) yd_X1_goOn ⟨Nat.le_of_ble_eq_true rfl, Nat.le_of_ble_eq_true rfl⟩ rfl hl.1 rfl (Nat.le_of_ble_eq_true rfl) dX5_pass_17 ⟨Nat.le_of_ble_eq_true rfl, Nat.le_of_ble_eq_true rfl⟩) hG (fun H locs hG => ?_)
  refine lv_iload_n hx hb dX5_pass_20 rfl (lv_at hl 0 rfl) ?_
  refine lv_aload_n hx hb dX5_pass_21 rfl (lv_at hl 1 rfl) ?_
  have hk15 := (show kd 0 = 1 from rfl)
  refine xg5 F hG ha0 0 (by decide) (kw508 F.kd) (v := .ref (g 0)) rfl dX5_pass_22 ?_
  obtain ⟨r17, hc16, h⟩ := cb1_e h
  refine k_i (r_runVN F hG (c_X1_peopleLeft l D ca g hk15 hc16) (kd_lt hk15 (by decide)) (gd1 hk15) rfl (kw266 F.kd) (kw185 F.kd) (ks_X1_peopleLeft F.kd) (kw2 F.kd) (kw186 F.kd) yd_X1_peopleLeft ⟨Nat.le_of_ble_eq_true rfl, Nat.le_of_ble_eq_true rfl⟩ rfl hl.1 rfl (Nat.le_of_ble_eq_true rfl) dX5_pass_25 ⟨Nat.le_of_ble_eq_true rfl, Nat.le_of_ble_eq_true rfl⟩) hG (fun H locs hG => ?_)
  refine lv_isub hx hb dX5_pass_28 ?_
  obtain rfl := som1 h
  exact xend_i F hr hlk rfl hG dX5_pass_29 (Nat.le_of_ble_eq_true rfl) (Nat.le_of_ble_eq_true rfl)
set_option maxHeartbeats 4000000 in
set_option maxRecDepth 100000 in
theorem c_X5_foresee (l : Launch) (D : va_G) (ca : vCA) (g : Nat → Nat) (hst : l.stackTraces = false) {fu : Nat} {M : Mem} {a0 : Nat} {x1 : Int32} {x2 : Int32} {o : Nat ⊕ (Mem × Int32)} (ha0 : kd a0 = 5) (h : m_X5_foresee fu M a0 x1 x2 = some o) : xM l yX5_foresee cX5_foresee 3 (some .int) { frames := 7, cells := 2, slots := 12, locals := 118 } D ca g M [.ref (g a0), .int x1, .int x2] (fun sz => xQi D ca g sz o) o := by
  refine mk_xMet (by decide) (Nat.le_of_ble_eq_true rfl) ?_
  intro p e s m below meth c F hr hlk htab hG ls hl
  have hx := F.1
  have hb := F.2.1
  replace hl : lv_has ls 3 [(0, .ref (g a0)), (1, .int x1), (2, .int x2)] := hl
  unfold m_X5_foresee at h
  refine lv_iload_n hx hb dX5_foresee_0 rfl (lv_at hl 1 rfl) ?_
  obtain ⟨o5, hc4, hL6, hR7⟩ := xb_e h
  refine kx_v (x_runS F hG (c_X5_needSteps l D ca g hst hc4) (kw247 F.kd) (kw248 F.kd) (kw1 F.kd) (kw249 F.kd) yd_X5_needSteps ⟨Nat.le_of_ble_eq_true rfl, Nat.le_of_ble_eq_true rfl⟩ rfl hl.1 rfl (Nat.le_of_ble_eq_true rfl) dX5_foresee_1 ⟨Nat.le_of_ble_eq_true rfl, Nat.le_of_ble_eq_true rfl⟩) hG htab hlk hL6 (Nat.le_of_ble_eq_true rfl) (Nat.le_of_ble_eq_true rfl) (fun H locs eo8 hG => ?_)
  have h := hR7 _ eo8
  refine lv_iload_n hx hb dX5_foresee_4 rfl (lv_at hl 2 rfl) ?_
  refine lv_iconst (v := 3) hx hb dX5_foresee_5 (by decide) ?_
  obtain ⟨o10, hc9, hL11, hR12⟩ := xb_e h
  refine kx_v (x_runS F hG (c_X5_needWhat l D ca g hst hc9) (kw108 F.kd) (kw109 F.kd) (kw1 F.kd) (kw110 F.kd) yd_X5_needWhat ⟨Nat.le_of_ble_eq_true rfl, Nat.le_of_ble_eq_true rfl⟩ rfl hl.1 rfl (Nat.le_of_ble_eq_true rfl) dX5_foresee_6 ⟨Nat.le_of_ble_eq_true rfl, Nat.le_of_ble_eq_true rfl⟩) hG htab hlk hL11 (Nat.le_of_ble_eq_true rfl) (Nat.le_of_ble_eq_true rfl) (fun H locs eo13 hG => ?_)
  have h := hR12 _ eo13
  refine lv_aload_n hx hb dX5_foresee_9 rfl (lv_at hl 0 rfl) ?_
  have hk14 := (show kd 20 = 1 from rfl)
  refine xg5 F hG ha0 1 (by decide) (kw509 F.kd) (v := .ref (g 20)) rfl dX5_foresee_10 ?_
  refine lv_aload_n hx hb dX5_foresee_13 rfl (lv_at hl 0 rfl) ?_
  have hk15 := (show kd 0 = 1 from rfl)
  refine xg5 F hG ha0 0 (by decide) (kw508 F.kd) (v := .ref (g 0)) rfl dX5_foresee_14 ?_
  obtain ⟨M18, hc16, h⟩ := cb1_e h
  refine k_v (r_runVN F hG (c_X1_become l D ca g hk14 hk15 hc16) (kd_lt hk14 (by decide)) (gd1 hk14) rfl (kw323 F.kd) (kw325 F.kd) (ks_X1_become F.kd) (kw2 F.kd) (kw326 F.kd) yd_X1_become ⟨Nat.le_of_ble_eq_true rfl, Nat.le_of_ble_eq_true rfl⟩ rfl hl.1 rfl (Nat.le_of_ble_eq_true rfl) dX5_foresee_17 ⟨Nat.le_of_ble_eq_true rfl, Nat.le_of_ble_eq_true rfl⟩) hG (fun H locs hG => ?_)
  refine lv_aload_n hx hb dX5_foresee_20 rfl (lv_at hl 0 rfl) ?_
  have hk19 := (show kd 20 = 1 from rfl)
  refine xg5 F hG ha0 1 (by decide) (kw509 F.kd) (v := .ref (g 20)) rfl dX5_foresee_21 ?_
  refine lv_iload_n hx hb dX5_foresee_24 rfl (lv_at hl 1 rfl) ?_
  obtain ⟨M22, hc20, h⟩ := cb1_e h
  refine k_v (r_runVN F hG (c_X1_goOn l D ca g hk19 hc20) (kd_lt hk19 (by decide)) (gd1 hk19) rfl (kw267 F.kd) (kw269 F.kd) (ks_X1_goOn F.kd) (kw2 F.kd) (kw270 F.kd) yd_X1_goOn ⟨Nat.le_of_ble_eq_true rfl, Nat.le_of_ble_eq_true rfl⟩ rfl hl.1 rfl (Nat.le_of_ble_eq_true rfl) dX5_foresee_25 ⟨Nat.le_of_ble_eq_true rfl, Nat.le_of_ble_eq_true rfl⟩) hG (fun H locs hG => ?_)
  refine lv_iload_n hx hb dX5_foresee_28 rfl (lv_at hl 2 rfl) ?_
  by_cases c23 : x2 = 0
  · have h := ite_t h c23
    refine lv_lookup (off := 27) (tgt := 56) hx hb dX5_foresee_29 (by decide) (by rw [c23]; rfl) (by decide) ?_
    refine lv_aload_n hx hb dX5_foresee_56 rfl (lv_at hl 0 rfl) ?_
    have hk24 := (show kd 20 = 1 from rfl)
    refine xg5 F hG ha0 1 (by decide) (kw509 F.kd) (v := .ref (g 20)) rfl dX5_foresee_57 ?_
    obtain ⟨r26, hc25, h⟩ := cb1_e h
    refine k_i (r_runVN F hG (c_X1_peopleLeft l D ca g hk24 hc25) (kd_lt hk24 (by decide)) (gd1 hk24) rfl (kw266 F.kd) (kw185 F.kd) (ks_X1_peopleLeft F.kd) (kw2 F.kd) (kw186 F.kd) yd_X1_peopleLeft ⟨Nat.le_of_ble_eq_true rfl, Nat.le_of_ble_eq_true rfl⟩ rfl hl.1 rfl (Nat.le_of_ble_eq_true rfl) dX5_foresee_60 ⟨Nat.le_of_ble_eq_true rfl, Nat.le_of_ble_eq_true rfl⟩) hG (fun H locs hG => ?_)
    obtain rfl := som1 h
    exact xend_i F hr hlk rfl hG dX5_foresee_63 (Nat.le_of_ble_eq_true rfl) (Nat.le_of_ble_eq_true rfl)
  have h := ite_f h c23
  by_cases c27 : x2 = 1
  · have h := ite_t h c27
    refine lv_lookup (off := 35) (tgt := 64) hx hb dX5_foresee_29 (by decide) (by rw [c27]; rfl) (by decide) ?_
    refine lv_aload_n hx hb dX5_foresee_64 rfl (lv_at hl 0 rfl) ?_
    have hk28 := (show kd 20 = 1 from rfl)
    refine xg5 F hG ha0 1 (by decide) (kw509 F.kd) (v := .ref (g 20)) rfl dX5_foresee_65 ?_
    have hk29 := kt_quarter hk28
    refine xg1N F hG hk28 0 (by decide) (kw467 F.kd) (v := .ref (g (20 + 1))) rfl dX5_foresee_68 ?_
    obtain ⟨r31, hc30, h⟩ := cb1_e h
    refine k_i (r_runVN F hG (c_X3_barricades l D ca g hk29 hc30) (kd_lt hk29 (by decide)) (gd3 hk29) rfl (kw340 F.kd) (kw177 F.kd) (ks_X3_barricades F.kd) (kw3 F.kd) (kw178 F.kd) yd_X3_barricades ⟨Nat.le_of_ble_eq_true rfl, Nat.le_of_ble_eq_true rfl⟩ rfl hl.1 rfl (Nat.le_of_ble_eq_true rfl) dX5_foresee_71 ⟨Nat.le_of_ble_eq_true rfl, Nat.le_of_ble_eq_true rfl⟩) hG (fun H locs hG => ?_)
    obtain rfl := som1 h
    exact xend_i F hr hlk rfl hG dX5_foresee_74 (Nat.le_of_ble_eq_true rfl) (Nat.le_of_ble_eq_true rfl)
  have h := ite_f h c27
  refine lv_lookup (off := 46) (tgt := 75) hx hb dX5_foresee_29 (by decide) (lso1 c23 c27) (by decide) ?_
  refine lv_aload_n hx hb dX5_foresee_75 rfl (lv_at hl 0 rfl) ?_
  have hk32 := (show kd 41 = 4 from rfl)
  refine xg5 F hG ha0 2 (by decide) (kw510 F.kd) (v := .ref (g 41)) rfl dX5_foresee_76 ?_
  refine lv_aload_n hx hb dX5_foresee_79 rfl (lv_at hl 0 rfl) ?_
  have hk33 := (show kd 20 = 1 from rfl)
  refine xg5 F hG ha0 1 (by decide) (kw509 F.kd) (v := .ref (g 20)) rfl dX5_foresee_80 ?_
  have hk34 := kt_quarter hk33
  refine xg1N F hG hk33 0 (by decide) (kw467 F.kd) (v := .ref (g (20 + 1))) rfl dX5_foresee_83 ?_
  obtain ⟨M37, r36, hc35, h⟩ := cb2_e h
  refine k_i (r_runVN F hG (c_X4_fewestToShut l D ca g hk32 hk34 hc35) (kd_lt hk32 (by decide)) (gd4 hk32) rfl (kw223 F.kd) (kw225 F.kd) (ks_X4_fewestToShut F.kd) (kw6 F.kd) (kw226 F.kd) yd_X4_fewestToShut ⟨Nat.le_of_ble_eq_true rfl, Nat.le_of_ble_eq_true rfl⟩ rfl hl.1 rfl (Nat.le_of_ble_eq_true rfl) dX5_foresee_86 ⟨Nat.le_of_ble_eq_true rfl, Nat.le_of_ble_eq_true rfl⟩) hG (fun H locs hG => ?_)
  obtain rfl := som1 h
  exact xend_i F hr hlk rfl hG dX5_foresee_89 (Nat.le_of_ble_eq_true rfl) (Nat.le_of_ble_eq_true rfl)
set_option maxHeartbeats 4000000 in
set_option maxRecDepth 100000 in
theorem m_X5_advise_L30_w {p : Program} {l : Launch} {e : Env} {s : State} {m : MethodId} {args : Array Value} {below : List Frame} {meth : Method} {c : Code} {Q : State → Prop} {D : va_G} {ca : vCA} {g : Nat → Nat} {fu : Nat} {q0 : Nat} {y1 : Int32} {out : Mem × Int32} (F : FX p m c cX5_advise 6 s D ca g RX5) (hq0 : kd q0 = 5)
    (K0 : ∀ (M1 : Mem) (u2 : Int32) (H : Heap) (locs : List Loc) (ls : Array Slot), out = (M1, u2) → GW D ca g s M1 H locs → lv_has ls 6 [(2, .int u2)] → W p l e ({ frames := 7, cells := 1, slots := 6, locals := 140 }) s m args below meth c H locs 1 6 Q (F0 m 64 ls [])) :
    ∀ (n : Nat) (M : Mem) (z2 : Int32) (z3 : Int32) (z4 : Int32), m_X5_advise_L30 fu q0 y1 n M z2 z3 z4 = some out → ∀ (H : Heap) (locs : List Loc) (ls : Array Slot), GW D ca g s M H locs → lv_has ls 6 [(0, .ref (g q0)), (1, .int y1), (2, .int z2), (3, .int z3), (4, .int z4)] → W p l e ({ frames := 7, cells := 1, slots := 6, locals := 140 }) s m args below meth c H locs 1 6 Q (F0 m 30 ls []) := by
  have hx := F.1
  have hb := F.2.1
  intro n
  induction n with
  | zero =>
    intro M z2 z3 z4 h
    exact absurd h (by simp [m_X5_advise_L30])
  | succ n ih =>
    intro M z2 z3 z4 h H locs ls hG hl
    rw [m_X5_advise_L30] at h
    refine lv_iload hx hb dX5_advise_30 (lv_at hl 4 rfl) ?_
    refine lv_bipush (v := 12) hx hb dX5_advise_32 (by decide) ?_
    refine lv_icmp_ge (tgt := 64) hx hb dX5_advise_34 (by decide) (fun c15 => ?_) (fun c15 => ?_)
    · have h := ite_t h c15
      exact K0 _ _ _ _ _ (som1 h).symm hG (lv_sub hl [2] rfl)
    · have h := ite_f h c15
      refine lv_aload_n hx hb dX5_advise_37 rfl (lv_at hl 0 rfl) ?_
      refine lv_iload_n hx hb dX5_advise_38 rfl (lv_at hl 1 rfl) ?_
      refine lv_iload hx hb dX5_advise_39 (lv_at hl 4 rfl) ?_
      obtain ⟨M18, r17, hc16, h⟩ := cb2_e h
      refine k_i (r_runV F hG (c_X5_shutsBehind l D ca g hq0 hc16) (kd_lt hq0 (by decide)) (gd5 hq0) rfl (kw346 F.kd) (kw348 F.kd) (ks_X5_shutsBehind F.kd) (kw1 F.kd) (kw349 F.kd) yd_X5_shutsBehind ⟨Nat.le_of_ble_eq_true rfl, Nat.le_of_ble_eq_true rfl⟩ rfl hl.1 rfl (Nat.le_of_ble_eq_true rfl) dX5_advise_41 ⟨Nat.le_of_ble_eq_true rfl, Nat.le_of_ble_eq_true rfl⟩) hG (fun H locs hG => ?_)
      refine lv_istore (lv' := [(5, .int r17), (0, .ref (g q0)), (1, .int y1), (2, .int z2), (3, .int z3), (4, .int z4)]) hx hb dX5_advise_44 hl (by decide) rfl (fun ls hl => ?_)
      refine lv_iload hx hb dX5_advise_46 (lv_at hl 0 rfl) ?_
      refine lv_iload_n hx hb dX5_advise_48 rfl (lv_at hl 4 rfl) ?_
      refine lv_icmp_ge (tgt := 58) hx hb dX5_advise_49 (by decide) (fun c19 => ?_) (fun c19 => ?_)
      · have h := ite_t h c19
        obtain ⟨x20, ex20, h⟩ := mlet_e h
        refine lv_iinc (v := x20) (lv' := [(4, .int x20), (5, .int r17), (0, .ref (g q0)), (1, .int y1), (2, .int z2), (3, .int z3)]) hx hb dX5_advise_58 hl (k := 5) rfl (by rw [ex20]; rfl) (by decide) rfl (fun ls hl => ?_)
        refine lv_goto (tgt := 30) hx hb dX5_advise_61 (by decide) ?_
        exact ih M18 z2 z3 x20 h _ _ _ hG (lv_sub hl [2, 3, 4, 5, 0] rfl)
      · have h := ite_f h c19
        refine lv_iload hx hb dX5_advise_52 (lv_at hl 0 rfl) ?_
        refine lv_istore_n (lv' := [(3, .int r17), (5, .int r17), (0, .ref (g q0)), (1, .int y1), (2, .int z2), (4, .int z4)]) hx hb dX5_advise_54 rfl hl (by decide) rfl (fun ls hl => ?_)
        refine lv_iload hx hb dX5_advise_55 (lv_at hl 5 rfl) ?_
        refine lv_istore_n (lv' := [(2, .int z4), (3, .int r17), (5, .int r17), (0, .ref (g q0)), (1, .int y1), (4, .int z4)]) hx hb dX5_advise_57 rfl hl (by decide) rfl (fun ls hl => ?_)
        obtain ⟨x21, ex21, h⟩ := mlet_e h
        refine lv_iinc (v := x21) (lv' := [(4, .int x21), (2, .int z4), (3, .int r17), (5, .int r17), (0, .ref (g q0)), (1, .int y1)]) hx hb dX5_advise_58 hl (k := 5) rfl (by rw [ex21]; rfl) (by decide) rfl (fun ls hl => ?_)
        refine lv_goto (tgt := 30) hx hb dX5_advise_61 (by decide) ?_
        exact ih M18 z4 r17 x21 h _ _ _ hG (lv_sub hl [4, 5, 1, 2, 0] rfl)
set_option maxHeartbeats 4000000 in
set_option maxRecDepth 100000 in
theorem c_X5_advise (l : Launch) (D : va_G) (ca : vCA) (g : Nat → Nat) (hst : l.stackTraces = false) {fu : Nat} {M : Mem} {a0 : Nat} {x1 : Int32} {o : Nat ⊕ (Mem × Int32)} (ha0 : kd a0 = 5) (h : m_X5_advise fu M a0 x1 = some o) : xM l yX5_advise cX5_advise 6 (some .int) { frames := 7, cells := 1, slots := 6, locals := 140 } D ca g M [.ref (g a0), .int x1] (fun sz => xQi D ca g sz o) o := by
  refine mk_xMet (by decide) (Nat.le_of_ble_eq_true rfl) ?_
  intro p e s m below meth c F hr hlk htab hG ls hl
  have hx := F.1
  have hb := F.2.1
  replace hl : lv_has ls 6 [(0, .ref (g a0)), (1, .int x1)] := hl
  unfold m_X5_advise at h
  refine lv_aload_n hx hb dX5_advise_0 rfl (lv_at hl 0 rfl) ?_
  refine lv_iload_n hx hb dX5_advise_1 rfl (lv_at hl 1 rfl) ?_
  obtain ⟨o4, hc3, hL5, hR6⟩ := xb_e h
  refine kx_v (x_runV F hG (c_X5_needCrowd l D ca g hst ha0 hc3) (kd_lt ha0 (by decide)) (gd5 ha0) rfl (kw102 F.kd) (kw104 F.kd) (ks_X5_needCrowd F.kd) (kw1 F.kd) (kw106 F.kd) yd_X5_needCrowd ⟨Nat.le_of_ble_eq_true rfl, Nat.le_of_ble_eq_true rfl⟩ rfl hl.1 rfl (Nat.le_of_ble_eq_true rfl) dX5_advise_2 ⟨Nat.le_of_ble_eq_true rfl, Nat.le_of_ble_eq_true rfl⟩) hG htab hlk hL5 (Nat.le_of_ble_eq_true rfl) (Nat.le_of_ble_eq_true rfl) (fun H locs eo7 hG => ?_)
  have h := hR6 _ eo7
  refine lv_aload_n hx hb dX5_advise_5 rfl (lv_at hl 0 rfl) ?_
  have hk8 := (show kd 0 = 1 from rfl)
  refine xg5 F hG ha0 0 (by decide) (kw508 F.kd) (v := .ref (g 0)) rfl dX5_advise_6 ?_
  have hk9 := kt_crowds hk8
  refine xg1N F hG hk8 1 (by decide) (kw469 F.kd) (v := .ref (g (0 + 3))) rfl dX5_advise_9 ?_
  refine lv_iload_n hx hb dX5_advise_12 rfl (lv_at hl 1 rfl) ?_
  obtain ⟨hi10, h⟩ := chk_e h
  have hk11 := kt_elC hk9 hi10
  refine r_aldC F hG hk9 hi10 dX5_advise_13 ?_
  obtain ⟨r13, hc12, h⟩ := cb1_e h
  refine k_i (r_runVN F hG (c_X0_isScattered l D ca g hk11 hc12) (kd_lt hk11 (by decide)) (gd0 hk11) rfl (kw345 F.kd) (kw135 F.kd) (ks_X0_isScattered F.kd) (kw4 F.kd) (kw136 F.kd) yd_X0_isScattered ⟨Nat.le_of_ble_eq_true rfl, Nat.le_of_ble_eq_true rfl⟩ rfl hl.1 rfl (Nat.le_of_ble_eq_true rfl) dX5_advise_14 ⟨Nat.le_of_ble_eq_true rfl, Nat.le_of_ble_eq_true rfl⟩) hG (fun H locs hG => ?_)
  refine lv_if_eq (tgt := 22) hx hb dX5_advise_17 (by decide) (fun c14 => ?_) (fun c14 => ?_)
  · have h := ite_t h c14
    refine lv_iconst (v := (-1)) hx hb dX5_advise_22 (by decide) ?_
    refine lv_istore_n (lv' := [(2, .int (-1)), (0, .ref (g a0)), (1, .int x1)]) hx hb dX5_advise_23 rfl hl (by decide) rfl (fun ls hl => ?_)
    refine lv_bipush (v := 108) hx hb dX5_advise_24 (by decide) ?_
    refine lv_istore_n (lv' := [(3, .int 108), (2, .int (-1)), (0, .ref (g a0)), (1, .int x1)]) hx hb dX5_advise_26 rfl hl (by decide) rfl (fun ls hl => ?_)
    refine lv_iconst (v := 0) hx hb dX5_advise_27 (by decide) ?_
    refine lv_istore (lv' := [(4, .int 0), (3, .int 108), (2, .int (-1)), (0, .ref (g a0)), (1, .int x1)]) hx hb dX5_advise_28 hl (by decide) rfl (fun ls hl => ?_)
    obtain ⟨o22, ho23, h⟩ := cb1_e h
    refine m_X5_advise_L30_w (out := o22) F ha0 ?_ _ _ _ _ _ ho23 _ _ _ hG (lv_sub hl [3, 4, 2, 1, 0] rfl)
    · intro M24 x25 H locs ls eo hG hl
      subst o22
      have h := up2_e h
      refine lv_iload_n hx hb dX5_advise_64 rfl (lv_at hl 0 rfl) ?_
      obtain rfl := som1 h
      exact xend_i F hr hlk rfl hG dX5_advise_65 (Nat.le_of_ble_eq_true rfl) (Nat.le_of_ble_eq_true rfl)
  · have h := ite_f h c14
    refine lv_iconst (v := (-1)) hx hb dX5_advise_20 (by decide) ?_
    obtain rfl := som1 h
    exact xend_i F hr hlk rfl hG dX5_advise_21 (Nat.le_of_ble_eq_true rfl) (Nat.le_of_ble_eq_true rfl)
set_option maxHeartbeats 4000000 in
set_option maxRecDepth 100000 in
theorem n_X5_crowd (l : Launch) (D : va_G) (ca : vCA) (g : Nat → Nat) {fu : Nat} {M : Mem} {a0 : Nat} {x1 : Int32} {x2 : Int32} {r : Int32} (ha0 : kd a0 = 5) (h : m_X5_crowd fu M a0 x1 x2 = some (.inr r)) : cM l yX5_crowd cX5_crowd 3 (some .int) { frames := 7, cells := 0, slots := 0, locals := 111 } D ca g M [.ref (g a0), .int x1, .int x2] (fun sz => cQi D ca g sz M r) := by
  refine mk_Met (by decide) (Nat.le_of_ble_eq_true rfl) ?_
  intro p e s m below meth c F hr hlk hnm hG ls hl
  have hx := F.1
  have hb := F.2.1
  replace hl : lv_has ls 3 [(0, .ref (g a0)), (1, .int x1), (2, .int x2)] := hl
  unfold m_X5_crowd at h
  refine lv_aload_n hx hb dX5_crowd_0 rfl (lv_at hl 0 rfl) ?_
  refine lv_iload_n hx hb dX5_crowd_1 rfl (lv_at hl 1 rfl) ?_
  obtain ⟨_, hc4, h⟩ := xb_n h
  refine k_v (r_runV F hG (n_X5_needCrowd l D ca g ha0 hc4) (kd_lt ha0 (by decide)) (gd5 ha0) rfl (kw102 F.kd) (kw104 F.kd) (ks_X5_needCrowd F.kd) (kw1 F.kd) (kw106 F.kd) yd_X5_needCrowd ⟨Nat.le_of_ble_eq_true rfl, Nat.le_of_ble_eq_true rfl⟩ rfl hl.1 rfl (Nat.le_of_ble_eq_true rfl) dX5_crowd_2 ⟨Nat.le_of_ble_eq_true rfl, Nat.le_of_ble_eq_true rfl⟩) hG (fun H locs hG => ?_)
  refine lv_iload_n hx hb dX5_crowd_5 rfl (lv_at hl 2 rfl) ?_
  refine lv_bipush (v := 8) hx hb dX5_crowd_6 (by decide) ?_
  obtain ⟨_, hc5, h⟩ := xb_n h
  refine k_v (r_runS F hG (n_X5_needWhat l D ca g hc5) (kw108 F.kd) (kw109 F.kd) (kw1 F.kd) (kw110 F.kd) yd_X5_needWhat ⟨Nat.le_of_ble_eq_true rfl, Nat.le_of_ble_eq_true rfl⟩ rfl hl.1 rfl (Nat.le_of_ble_eq_true rfl) dX5_crowd_8 ⟨Nat.le_of_ble_eq_true rfl, Nat.le_of_ble_eq_true rfl⟩) hG (fun H locs hG => ?_)
  refine lv_aload_n hx hb dX5_crowd_11 rfl (lv_at hl 0 rfl) ?_
  have hk6 := (show kd 0 = 1 from rfl)
  refine xg5 F hG ha0 0 (by decide) (kw508 F.kd) (v := .ref (g 0)) rfl dX5_crowd_12 ?_
  refine lv_aload_n hx hb dX5_crowd_15 rfl (lv_at hl 0 rfl) ?_
  have hk7 := (show kd 0 = 1 from rfl)
  refine xg5 F hG ha0 0 (by decide) (kw508 F.kd) (v := .ref (g 0)) rfl dX5_crowd_16 ?_
  have hk8 := kt_crowds hk7
  refine xg1N F hG hk7 1 (by decide) (kw469 F.kd) (v := .ref (g (0 + 3))) rfl dX5_crowd_19 ?_
  refine lv_iload_n hx hb dX5_crowd_22 rfl (lv_at hl 1 rfl) ?_
  obtain ⟨hi9, h⟩ := chk_e h
  have hk10 := kt_elC hk8 hi9
  refine r_aldC F hG hk8 hi9 dX5_crowd_23 ?_
  refine lv_iload_n hx hb dX5_crowd_24 rfl (lv_at hl 2 rfl) ?_
  obtain ⟨r12, hc11, h⟩ := cb1_e h
  refine k_i (r_runVN F hG (c_X1_crowdNumber l D ca g hk6 hk10 hc11) (kd_lt hk6 (by decide)) (gd1 hk6) rfl (kw112 F.kd) (kw114 F.kd) (ks_X1_crowdNumber F.kd) (kw2 F.kd) (kw116 F.kd) yd_X1_crowdNumber ⟨Nat.le_of_ble_eq_true rfl, Nat.le_of_ble_eq_true rfl⟩ rfl hl.1 rfl (Nat.le_of_ble_eq_true rfl) dX5_crowd_25 ⟨Nat.le_of_ble_eq_true rfl, Nat.le_of_ble_eq_true rfl⟩) hG (fun H locs hG => ?_)
  obtain rfl := som1s h
  exact end_i F hr hlk hG dX5_crowd_28
set_option maxHeartbeats 4000000 in
set_option maxRecDepth 100000 in
theorem n_X5_guard (l : Launch) (D : va_G) (ca : vCA) (g : Nat → Nat) {fu : Nat} {M : Mem} {a0 : Nat} {x1 : Int32} {x2 : Int32} {r : Int32} (ha0 : kd a0 = 5) (h : m_X5_guard fu M a0 x1 x2 = some (.inr r)) : cM l yX5_guard cX5_guard 3 (some .int) { frames := 7, cells := 0, slots := 0, locals := 111 } D ca g M [.ref (g a0), .int x1, .int x2] (fun sz => cQi D ca g sz M r) := by
  refine mk_Met (by decide) (Nat.le_of_ble_eq_true rfl) ?_
  intro p e s m below meth c F hr hlk hnm hG ls hl
  have hx := F.1
  have hb := F.2.1
  replace hl : lv_has ls 3 [(0, .ref (g a0)), (1, .int x1), (2, .int x2)] := hl
  unfold m_X5_guard at h
  refine lv_aload_n hx hb dX5_guard_0 rfl (lv_at hl 0 rfl) ?_
  refine lv_iload_n hx hb dX5_guard_1 rfl (lv_at hl 1 rfl) ?_
  obtain ⟨_, hc4, h⟩ := xb_n h
  refine k_v (r_runV F hG (n_X5_needPatrol l D ca g ha0 hc4) (kd_lt ha0 (by decide)) (gd5 ha0) rfl (kw145 F.kd) (kw147 F.kd) (ks_X5_needPatrol F.kd) (kw1 F.kd) (kw148 F.kd) yd_X5_needPatrol ⟨Nat.le_of_ble_eq_true rfl, Nat.le_of_ble_eq_true rfl⟩ rfl hl.1 rfl (Nat.le_of_ble_eq_true rfl) dX5_guard_2 ⟨Nat.le_of_ble_eq_true rfl, Nat.le_of_ble_eq_true rfl⟩) hG (fun H locs hG => ?_)
  refine lv_iload_n hx hb dX5_guard_5 rfl (lv_at hl 2 rfl) ?_
  refine lv_iconst (v := 4) hx hb dX5_guard_6 (by decide) ?_
  obtain ⟨_, hc5, h⟩ := xb_n h
  refine k_v (r_runS F hG (n_X5_needWhat l D ca g hc5) (kw108 F.kd) (kw109 F.kd) (kw1 F.kd) (kw110 F.kd) yd_X5_needWhat ⟨Nat.le_of_ble_eq_true rfl, Nat.le_of_ble_eq_true rfl⟩ rfl hl.1 rfl (Nat.le_of_ble_eq_true rfl) dX5_guard_7 ⟨Nat.le_of_ble_eq_true rfl, Nat.le_of_ble_eq_true rfl⟩) hG (fun H locs hG => ?_)
  refine lv_aload_n hx hb dX5_guard_10 rfl (lv_at hl 0 rfl) ?_
  have hk6 := (show kd 0 = 1 from rfl)
  refine xg5 F hG ha0 0 (by decide) (kw508 F.kd) (v := .ref (g 0)) rfl dX5_guard_11 ?_
  refine lv_aload_n hx hb dX5_guard_14 rfl (lv_at hl 0 rfl) ?_
  have hk7 := (show kd 0 = 1 from rfl)
  refine xg5 F hG ha0 0 (by decide) (kw508 F.kd) (v := .ref (g 0)) rfl dX5_guard_15 ?_
  have hk8 := kt_patrols hk7
  refine xg1N F hG hk7 3 (by decide) (kw473 F.kd) (v := .ref (g (0 + 4))) rfl dX5_guard_18 ?_
  refine lv_iload_n hx hb dX5_guard_21 rfl (lv_at hl 1 rfl) ?_
  obtain ⟨hi9, h⟩ := chk_e h
  have hk10 := kt_elP hk8 hi9
  refine r_aldP F hG hk8 hi9 dX5_guard_22 ?_
  refine lv_iload_n hx hb dX5_guard_23 rfl (lv_at hl 2 rfl) ?_
  obtain ⟨r12, hc11, h⟩ := cb1_e h
  refine k_i (r_runVN F hG (c_X1_guardNumber l D ca g hk6 hk10 hc11) (kd_lt hk6 (by decide)) (gd1 hk6) rfl (kw150 F.kd) (kw152 F.kd) (ks_X1_guardNumber F.kd) (kw2 F.kd) (kw153 F.kd) yd_X1_guardNumber ⟨Nat.le_of_ble_eq_true rfl, Nat.le_of_ble_eq_true rfl⟩ rfl hl.1 rfl (Nat.le_of_ble_eq_true rfl) dX5_guard_24 ⟨Nat.le_of_ble_eq_true rfl, Nat.le_of_ble_eq_true rfl⟩) hG (fun H locs hG => ?_)
  obtain rfl := som1s h
  exact end_i F hr hlk hG dX5_guard_27
set_option maxHeartbeats 4000000 in
set_option maxRecDepth 100000 in
theorem n_X5_sees (l : Launch) (D : va_G) (ca : vCA) (g : Nat → Nat) {fu : Nat} {M : Mem} {a0 : Nat} {x1 : Int32} {x2 : Int32} {r : Int32} (ha0 : kd a0 = 5) (h : m_X5_sees fu M a0 x1 x2 = some (.inr r)) : cM l yX5_sees cX5_sees 3 (some .boolean) { frames := 7, cells := 0, slots := 0, locals := 111 } D ca g M [.ref (g a0), .int x1, .int x2] (fun sz => cQi D ca g sz M r) := by
  refine mk_Met (by decide) (Nat.le_of_ble_eq_true rfl) ?_
  intro p e s m below meth c F hr hlk hnm hG ls hl
  have hx := F.1
  have hb := F.2.1
  replace hl : lv_has ls 3 [(0, .ref (g a0)), (1, .int x1), (2, .int x2)] := hl
  unfold m_X5_sees at h
  refine lv_aload_n hx hb dX5_sees_0 rfl (lv_at hl 0 rfl) ?_
  refine lv_iload_n hx hb dX5_sees_1 rfl (lv_at hl 1 rfl) ?_
  obtain ⟨_, hc4, h⟩ := xb_n h
  refine k_v (r_runV F hG (n_X5_needPatrol l D ca g ha0 hc4) (kd_lt ha0 (by decide)) (gd5 ha0) rfl (kw145 F.kd) (kw147 F.kd) (ks_X5_needPatrol F.kd) (kw1 F.kd) (kw148 F.kd) yd_X5_needPatrol ⟨Nat.le_of_ble_eq_true rfl, Nat.le_of_ble_eq_true rfl⟩ rfl hl.1 rfl (Nat.le_of_ble_eq_true rfl) dX5_sees_2 ⟨Nat.le_of_ble_eq_true rfl, Nat.le_of_ble_eq_true rfl⟩) hG (fun H locs hG => ?_)
  refine lv_aload_n hx hb dX5_sees_5 rfl (lv_at hl 0 rfl) ?_
  refine lv_iload_n hx hb dX5_sees_6 rfl (lv_at hl 2 rfl) ?_
  obtain ⟨_, hc5, h⟩ := xb_n h
  refine k_v (r_runV F hG (n_X5_needCrowd l D ca g ha0 hc5) (kd_lt ha0 (by decide)) (gd5 ha0) rfl (kw102 F.kd) (kw104 F.kd) (ks_X5_needCrowd F.kd) (kw1 F.kd) (kw106 F.kd) yd_X5_needCrowd ⟨Nat.le_of_ble_eq_true rfl, Nat.le_of_ble_eq_true rfl⟩ rfl hl.1 rfl (Nat.le_of_ble_eq_true rfl) dX5_sees_7 ⟨Nat.le_of_ble_eq_true rfl, Nat.le_of_ble_eq_true rfl⟩) hG (fun H locs hG => ?_)
  refine lv_aload_n hx hb dX5_sees_10 rfl (lv_at hl 0 rfl) ?_
  have hk6 := (show kd 0 = 1 from rfl)
  refine xg5 F hG ha0 0 (by decide) (kw508 F.kd) (v := .ref (g 0)) rfl dX5_sees_11 ?_
  refine lv_aload_n hx hb dX5_sees_14 rfl (lv_at hl 0 rfl) ?_
  have hk7 := (show kd 0 = 1 from rfl)
  refine xg5 F hG ha0 0 (by decide) (kw508 F.kd) (v := .ref (g 0)) rfl dX5_sees_15 ?_
  have hk8 := kt_patrols hk7
  refine xg1N F hG hk7 3 (by decide) (kw473 F.kd) (v := .ref (g (0 + 4))) rfl dX5_sees_18 ?_
  refine lv_iload_n hx hb dX5_sees_21 rfl (lv_at hl 1 rfl) ?_
  obtain ⟨hi9, h⟩ := chk_e h
  have hk10 := kt_elP hk8 hi9
  refine r_aldP F hG hk8 hi9 dX5_sees_22 ?_
  refine lv_aload_n hx hb dX5_sees_23 rfl (lv_at hl 0 rfl) ?_
  have hk11 := (show kd 0 = 1 from rfl)
  refine xg5 F hG ha0 0 (by decide) (kw508 F.kd) (v := .ref (g 0)) rfl dX5_sees_24 ?_
  have hk12 := kt_crowds hk11
  refine xg1N F hG hk11 1 (by decide) (kw469 F.kd) (v := .ref (g (0 + 3))) rfl dX5_sees_27 ?_
  refine lv_iload_n hx hb dX5_sees_30 rfl (lv_at hl 2 rfl) ?_
  obtain ⟨hi13, h⟩ := chk_e h
  have hk14 := kt_elC hk12 hi13
  refine r_aldC F hG hk12 hi13 dX5_sees_31 ?_
  obtain ⟨r16, hc15, h⟩ := cb1_e h
  refine k_i (r_runVN F hG (c_X1_isSeen l D ca g hk6 hk10 hk14 hc15) (kd_lt hk6 (by decide)) (gd1 hk6) rfl (kw602 F.kd) (kw128 F.kd) (ks_X1_isSeen F.kd) (kw2 F.kd) (kw129 F.kd) yd_X1_isSeen ⟨Nat.le_of_ble_eq_true rfl, Nat.le_of_ble_eq_true rfl⟩ rfl hl.1 rfl (Nat.le_of_ble_eq_true rfl) dX5_sees_32 ⟨Nat.le_of_ble_eq_true rfl, Nat.le_of_ble_eq_true rfl⟩) hG (fun H locs hG => ?_)
  obtain ⟨hz17, h⟩ := chk_e h
  obtain rfl := som1s h
  exact end_z F hr hlk hz17 hG dX5_sees_35
set_option maxHeartbeats 4000000 in
set_option maxRecDepth 100000 in
theorem n_X5_count (l : Launch) (D : va_G) (ca : vCA) (g : Nat → Nat) {fu : Nat} {M : Mem} {a0 : Nat} {x1 : Int32} {r : Int32} (ha0 : kd a0 = 5) (h : m_X5_count fu M a0 x1 = some (.inr r)) : cM l yX5_count cX5_count 2 (some .int) { frames := 7, cells := 0, slots := 0, locals := 111 } D ca g M [.ref (g a0), .int x1] (fun sz => cQi D ca g sz M r) := by
  refine mk_Met (by decide) (Nat.le_of_ble_eq_true rfl) ?_
  intro p e s m below meth c F hr hlk hnm hG ls hl
  have hx := F.1
  have hb := F.2.1
  replace hl : lv_has ls 2 [(0, .ref (g a0)), (1, .int x1)] := hl
  unfold m_X5_count at h
  refine lv_iload_n hx hb dX5_count_0 rfl (lv_at hl 1 rfl) ?_
  refine lv_bipush (v := 8) hx hb dX5_count_1 (by decide) ?_
  obtain ⟨_, hc3, h⟩ := xb_n h
  refine k_v (r_runS F hG (n_X5_needWhat l D ca g hc3) (kw108 F.kd) (kw109 F.kd) (kw1 F.kd) (kw110 F.kd) yd_X5_needWhat ⟨Nat.le_of_ble_eq_true rfl, Nat.le_of_ble_eq_true rfl⟩ rfl hl.1 rfl (Nat.le_of_ble_eq_true rfl) dX5_count_3 ⟨Nat.le_of_ble_eq_true rfl, Nat.le_of_ble_eq_true rfl⟩) hG (fun H locs hG => ?_)
  refine lv_aload_n hx hb dX5_count_6 rfl (lv_at hl 0 rfl) ?_
  have hk4 := (show kd 0 = 1 from rfl)
  refine xg5 F hG ha0 0 (by decide) (kw508 F.kd) (v := .ref (g 0)) rfl dX5_count_7 ?_
  refine lv_iload_n hx hb dX5_count_10 rfl (lv_at hl 1 rfl) ?_
  obtain ⟨r6, hc5, h⟩ := cb1_e h
  refine k_i (r_runVN F hG (c_X1_total l D ca g hk4 hc5) (kd_lt hk4 (by decide)) (gd1 hk4) rfl (kw167 F.kd) (kw169 F.kd) (ks_X1_total F.kd) (kw2 F.kd) (kw170 F.kd) yd_X1_total ⟨Nat.le_of_ble_eq_true rfl, Nat.le_of_ble_eq_true rfl⟩ rfl hl.1 rfl (Nat.le_of_ble_eq_true rfl) dX5_count_11 ⟨Nat.le_of_ble_eq_true rfl, Nat.le_of_ble_eq_true rfl⟩) hG (fun H locs hG => ?_)
  obtain rfl := som1s h
  exact end_i F hr hlk hG dX5_count_14
set_option maxHeartbeats 4000000 in
set_option maxRecDepth 100000 in
theorem n_X5_way (l : Launch) (D : va_G) (ca : vCA) (g : Nat → Nat) {fu : Nat} {M : Mem} {a0 : Nat} {x1 : Int32} {x2 : Int32} {x3 : Int32} {x4 : Int32} {M' : Mem} {r : Int32} (ha0 : kd a0 = 5) (h : m_X5_way fu M a0 x1 x2 x3 x4 = some (.inr (M', r))) : cM l yX5_way cX5_way 5 (some .int) { frames := 7, cells := 0, slots := 0, locals := 111 } D ca g M [.ref (g a0), .int x1, .int x2, .int x3, .int x4] (fun sz => cQi D ca g sz M' r) := by
  refine mk_Met (by decide) (Nat.le_of_ble_eq_true rfl) ?_
  intro p e s m below meth c F hr hlk hnm hG ls hl
  have hx := F.1
  have hb := F.2.1
  replace hl : lv_has ls 5 [(0, .ref (g a0)), (1, .int x1), (2, .int x2), (3, .int x3), (4, .int x4)] := hl
  unfold m_X5_way at h
  refine lv_aload_n hx hb dX5_way_0 rfl (lv_at hl 0 rfl) ?_
  have hk6 := (show kd 41 = 4 from rfl)
  refine xg5 F hG ha0 2 (by decide) (kw510 F.kd) (v := .ref (g 41)) rfl dX5_way_1 ?_
  refine lv_aload_n hx hb dX5_way_4 rfl (lv_at hl 0 rfl) ?_
  have hk7 := (show kd 0 = 1 from rfl)
  refine xg5 F hG ha0 0 (by decide) (kw508 F.kd) (v := .ref (g 0)) rfl dX5_way_5 ?_
  have hk8 := kt_quarter hk7
  refine xg1N F hG hk7 0 (by decide) (kw467 F.kd) (v := .ref (g (0 + 1))) rfl dX5_way_8 ?_
  refine lv_iload_n hx hb dX5_way_11 rfl (lv_at hl 1 rfl) ?_
  refine lv_iload_n hx hb dX5_way_12 rfl (lv_at hl 2 rfl) ?_
  obtain ⟨r10, hc9, h⟩ := xb_n h
  refine k_i (r_runS F hG (n_X5_placeOf l D ca g hc9) (kw20 F.kd) (kw21 F.kd) (kw1 F.kd) (kw22 F.kd) yd_X5_placeOf ⟨Nat.le_of_ble_eq_true rfl, Nat.le_of_ble_eq_true rfl⟩ rfl hl.1 rfl (Nat.le_of_ble_eq_true rfl) dX5_way_13 ⟨Nat.le_of_ble_eq_true rfl, Nat.le_of_ble_eq_true rfl⟩) hG (fun H locs hG => ?_)
  refine lv_iload_n hx hb dX5_way_16 rfl (lv_at hl 3 rfl) ?_
  refine lv_iload hx hb dX5_way_17 (lv_at hl 4 rfl) ?_
  obtain ⟨r12, hc11, h⟩ := xb_n h
  refine k_i (r_runS F hG (n_X5_placeOf l D ca g hc11) (kw20 F.kd) (kw21 F.kd) (kw1 F.kd) (kw22 F.kd) yd_X5_placeOf ⟨Nat.le_of_ble_eq_true rfl, Nat.le_of_ble_eq_true rfl⟩ rfl hl.1 rfl (Nat.le_of_ble_eq_true rfl) dX5_way_19 ⟨Nat.le_of_ble_eq_true rfl, Nat.le_of_ble_eq_true rfl⟩) hG (fun H locs hG => ?_)
  obtain ⟨M15, r14, hc13, h⟩ := cb2_e h
  refine k_i (r_runVN F hG (c_X4_fewestSteps l D ca g hk6 hk8 hc13) (kd_lt hk6 (by decide)) (gd4 hk6) rfl (kw195 F.kd) (kw197 F.kd) (ks_X4_fewestSteps F.kd) (kw6 F.kd) (kw199 F.kd) yd_X4_fewestSteps ⟨Nat.le_of_ble_eq_true rfl, Nat.le_of_ble_eq_true rfl⟩ rfl hl.1 rfl (Nat.le_of_ble_eq_true rfl) dX5_way_22 ⟨Nat.le_of_ble_eq_true rfl, Nat.le_of_ble_eq_true rfl⟩) hG (fun H locs hG => ?_)
  obtain ⟨rfl, rfl⟩ := som2s h
  exact end_i F hr hlk hG dX5_way_25
set_option maxHeartbeats 4000000 in
set_option maxRecDepth 100000 in
theorem n_X5_pass (l : Launch) (D : va_G) (ca : vCA) (g : Nat → Nat) {fu : Nat} {M : Mem} {a0 : Nat} {x1 : Int32} {M' : Mem} {r : Int32} (ha0 : kd a0 = 5) (h : m_X5_pass fu M a0 x1 = some (.inr (M', r))) : cM l yX5_pass cX5_pass 3 (some .int) { frames := 7, cells := 0, slots := 0, locals := 118 } D ca g M [.ref (g a0), .int x1] (fun sz => cQi D ca g sz M' r) := by
  refine mk_Met (by decide) (Nat.le_of_ble_eq_true rfl) ?_
  intro p e s m below meth c F hr hlk hnm hG ls hl
  have hx := F.1
  have hb := F.2.1
  replace hl : lv_has ls 3 [(0, .ref (g a0)), (1, .int x1)] := hl
  unfold m_X5_pass at h
  refine lv_iload_n hx hb dX5_pass_0 rfl (lv_at hl 1 rfl) ?_
  obtain ⟨_, hc3, h⟩ := xb_n h
  refine k_v (r_runS F hG (n_X5_needSteps l D ca g hc3) (kw247 F.kd) (kw248 F.kd) (kw1 F.kd) (kw249 F.kd) yd_X5_needSteps ⟨Nat.le_of_ble_eq_true rfl, Nat.le_of_ble_eq_true rfl⟩ rfl hl.1 rfl (Nat.le_of_ble_eq_true rfl) dX5_pass_1 ⟨Nat.le_of_ble_eq_true rfl, Nat.le_of_ble_eq_true rfl⟩) hG (fun H locs hG => ?_)
  refine lv_aload_n hx hb dX5_pass_4 rfl (lv_at hl 0 rfl) ?_
  have hk4 := (show kd 0 = 1 from rfl)
  refine xg5 F hG ha0 0 (by decide) (kw508 F.kd) (v := .ref (g 0)) rfl dX5_pass_5 ?_
  obtain ⟨r6, hc5, h⟩ := cb1_e h
  refine k_i (r_runVN F hG (c_X1_peopleLeft l D ca g hk4 hc5) (kd_lt hk4 (by decide)) (gd1 hk4) rfl (kw266 F.kd) (kw185 F.kd) (ks_X1_peopleLeft F.kd) (kw2 F.kd) (kw186 F.kd) yd_X1_peopleLeft ⟨Nat.le_of_ble_eq_true rfl, Nat.le_of_ble_eq_true rfl⟩ rfl hl.1 rfl (Nat.le_of_ble_eq_true rfl) dX5_pass_8 ⟨Nat.le_of_ble_eq_true rfl, Nat.le_of_ble_eq_true rfl⟩) hG (fun H locs hG => ?_)
  refine lv_istore_n (lv' := [(2, .int r6), (0, .ref (g a0)), (1, .int x1)]) hx hb dX5_pass_11 rfl hl (by decide) rfl (fun ls hl => ?_)
  refine lv_aload_n hx hb dX5_pass_12 rfl (lv_at hl 1 rfl) ?_
  have hk7 := (show kd 0 = 1 from rfl)
  refine xg5 F hG ha0 0 (by decide) (kw508 F.kd) (v := .ref (g 0)) rfl dX5_pass_13 ?_
  refine lv_iload_n hx hb dX5_pass_16 rfl (lv_at hl 2 rfl) ?_
  obtain ⟨M10, hc8, h⟩ := cb1_e h
  refine k_v (r_runVN F hG (c_X1_goOn l D ca g hk7 hc8) (kd_lt hk7 (by decide)) (gd1 hk7) rfl (kw267 F.kd) (kw269 F.kd) (ks_X1_goOn F.kd) (kw2 F.kd) (kw270 F.kd) yd_X1_goOn ⟨Nat.le_of_ble_eq_true rfl, Nat.le_of_ble_eq_true rfl⟩ rfl hl.1 rfl (Nat.le_of_ble_eq_true rfl) dX5_pass_17 ⟨Nat.le_of_ble_eq_true rfl, Nat.le_of_ble_eq_true rfl⟩) hG (fun H locs hG => ?_)
  refine lv_iload_n hx hb dX5_pass_20 rfl (lv_at hl 0 rfl) ?_
  refine lv_aload_n hx hb dX5_pass_21 rfl (lv_at hl 1 rfl) ?_
  have hk11 := (show kd 0 = 1 from rfl)
  refine xg5 F hG ha0 0 (by decide) (kw508 F.kd) (v := .ref (g 0)) rfl dX5_pass_22 ?_
  obtain ⟨r13, hc12, h⟩ := cb1_e h
  refine k_i (r_runVN F hG (c_X1_peopleLeft l D ca g hk11 hc12) (kd_lt hk11 (by decide)) (gd1 hk11) rfl (kw266 F.kd) (kw185 F.kd) (ks_X1_peopleLeft F.kd) (kw2 F.kd) (kw186 F.kd) yd_X1_peopleLeft ⟨Nat.le_of_ble_eq_true rfl, Nat.le_of_ble_eq_true rfl⟩ rfl hl.1 rfl (Nat.le_of_ble_eq_true rfl) dX5_pass_25 ⟨Nat.le_of_ble_eq_true rfl, Nat.le_of_ble_eq_true rfl⟩) hG (fun H locs hG => ?_)
  refine lv_isub hx hb dX5_pass_28 ?_
  obtain ⟨rfl, rfl⟩ := som2s h
  exact end_i F hr hlk hG dX5_pass_29
set_option maxHeartbeats 4000000 in
set_option maxRecDepth 100000 in
theorem n_X5_foresee (l : Launch) (D : va_G) (ca : vCA) (g : Nat → Nat) {fu : Nat} {M : Mem} {a0 : Nat} {x1 : Int32} {x2 : Int32} {M' : Mem} {r : Int32} (ha0 : kd a0 = 5) (h : m_X5_foresee fu M a0 x1 x2 = some (.inr (M', r))) : cM l yX5_foresee cX5_foresee 3 (some .int) { frames := 7, cells := 0, slots := 0, locals := 118 } D ca g M [.ref (g a0), .int x1, .int x2] (fun sz => cQi D ca g sz M' r) := by
  refine mk_Met (by decide) (Nat.le_of_ble_eq_true rfl) ?_
  intro p e s m below meth c F hr hlk hnm hG ls hl
  have hx := F.1
  have hb := F.2.1
  replace hl : lv_has ls 3 [(0, .ref (g a0)), (1, .int x1), (2, .int x2)] := hl
  unfold m_X5_foresee at h
  refine lv_iload_n hx hb dX5_foresee_0 rfl (lv_at hl 1 rfl) ?_
  obtain ⟨_, hc4, h⟩ := xb_n h
  refine k_v (r_runS F hG (n_X5_needSteps l D ca g hc4) (kw247 F.kd) (kw248 F.kd) (kw1 F.kd) (kw249 F.kd) yd_X5_needSteps ⟨Nat.le_of_ble_eq_true rfl, Nat.le_of_ble_eq_true rfl⟩ rfl hl.1 rfl (Nat.le_of_ble_eq_true rfl) dX5_foresee_1 ⟨Nat.le_of_ble_eq_true rfl, Nat.le_of_ble_eq_true rfl⟩) hG (fun H locs hG => ?_)
  refine lv_iload_n hx hb dX5_foresee_4 rfl (lv_at hl 2 rfl) ?_
  refine lv_iconst (v := 3) hx hb dX5_foresee_5 (by decide) ?_
  obtain ⟨_, hc5, h⟩ := xb_n h
  refine k_v (r_runS F hG (n_X5_needWhat l D ca g hc5) (kw108 F.kd) (kw109 F.kd) (kw1 F.kd) (kw110 F.kd) yd_X5_needWhat ⟨Nat.le_of_ble_eq_true rfl, Nat.le_of_ble_eq_true rfl⟩ rfl hl.1 rfl (Nat.le_of_ble_eq_true rfl) dX5_foresee_6 ⟨Nat.le_of_ble_eq_true rfl, Nat.le_of_ble_eq_true rfl⟩) hG (fun H locs hG => ?_)
  refine lv_aload_n hx hb dX5_foresee_9 rfl (lv_at hl 0 rfl) ?_
  have hk6 := (show kd 20 = 1 from rfl)
  refine xg5 F hG ha0 1 (by decide) (kw509 F.kd) (v := .ref (g 20)) rfl dX5_foresee_10 ?_
  refine lv_aload_n hx hb dX5_foresee_13 rfl (lv_at hl 0 rfl) ?_
  have hk7 := (show kd 0 = 1 from rfl)
  refine xg5 F hG ha0 0 (by decide) (kw508 F.kd) (v := .ref (g 0)) rfl dX5_foresee_14 ?_
  obtain ⟨M10, hc8, h⟩ := cb1_e h
  refine k_v (r_runVN F hG (c_X1_become l D ca g hk6 hk7 hc8) (kd_lt hk6 (by decide)) (gd1 hk6) rfl (kw323 F.kd) (kw325 F.kd) (ks_X1_become F.kd) (kw2 F.kd) (kw326 F.kd) yd_X1_become ⟨Nat.le_of_ble_eq_true rfl, Nat.le_of_ble_eq_true rfl⟩ rfl hl.1 rfl (Nat.le_of_ble_eq_true rfl) dX5_foresee_17 ⟨Nat.le_of_ble_eq_true rfl, Nat.le_of_ble_eq_true rfl⟩) hG (fun H locs hG => ?_)
  refine lv_aload_n hx hb dX5_foresee_20 rfl (lv_at hl 0 rfl) ?_
  have hk11 := (show kd 20 = 1 from rfl)
  refine xg5 F hG ha0 1 (by decide) (kw509 F.kd) (v := .ref (g 20)) rfl dX5_foresee_21 ?_
  refine lv_iload_n hx hb dX5_foresee_24 rfl (lv_at hl 1 rfl) ?_
  obtain ⟨M14, hc12, h⟩ := cb1_e h
  refine k_v (r_runVN F hG (c_X1_goOn l D ca g hk11 hc12) (kd_lt hk11 (by decide)) (gd1 hk11) rfl (kw267 F.kd) (kw269 F.kd) (ks_X1_goOn F.kd) (kw2 F.kd) (kw270 F.kd) yd_X1_goOn ⟨Nat.le_of_ble_eq_true rfl, Nat.le_of_ble_eq_true rfl⟩ rfl hl.1 rfl (Nat.le_of_ble_eq_true rfl) dX5_foresee_25 ⟨Nat.le_of_ble_eq_true rfl, Nat.le_of_ble_eq_true rfl⟩) hG (fun H locs hG => ?_)
  refine lv_iload_n hx hb dX5_foresee_28 rfl (lv_at hl 2 rfl) ?_
  by_cases c15 : x2 = 0
  · have h := ite_t h c15
    refine lv_lookup (off := 27) (tgt := 56) hx hb dX5_foresee_29 (by decide) (by rw [c15]; rfl) (by decide) ?_
    refine lv_aload_n hx hb dX5_foresee_56 rfl (lv_at hl 0 rfl) ?_
    have hk16 := (show kd 20 = 1 from rfl)
    refine xg5 F hG ha0 1 (by decide) (kw509 F.kd) (v := .ref (g 20)) rfl dX5_foresee_57 ?_
    obtain ⟨r18, hc17, h⟩ := cb1_e h
    refine k_i (r_runVN F hG (c_X1_peopleLeft l D ca g hk16 hc17) (kd_lt hk16 (by decide)) (gd1 hk16) rfl (kw266 F.kd) (kw185 F.kd) (ks_X1_peopleLeft F.kd) (kw2 F.kd) (kw186 F.kd) yd_X1_peopleLeft ⟨Nat.le_of_ble_eq_true rfl, Nat.le_of_ble_eq_true rfl⟩ rfl hl.1 rfl (Nat.le_of_ble_eq_true rfl) dX5_foresee_60 ⟨Nat.le_of_ble_eq_true rfl, Nat.le_of_ble_eq_true rfl⟩) hG (fun H locs hG => ?_)
    obtain ⟨rfl, rfl⟩ := som2s h
    exact end_i F hr hlk hG dX5_foresee_63
  have h := ite_f h c15
  by_cases c19 : x2 = 1
  · have h := ite_t h c19
    refine lv_lookup (off := 35) (tgt := 64) hx hb dX5_foresee_29 (by decide) (by rw [c19]; rfl) (by decide) ?_
    refine lv_aload_n hx hb dX5_foresee_64 rfl (lv_at hl 0 rfl) ?_
    have hk20 := (show kd 20 = 1 from rfl)
    refine xg5 F hG ha0 1 (by decide) (kw509 F.kd) (v := .ref (g 20)) rfl dX5_foresee_65 ?_
    have hk21 := kt_quarter hk20
    refine xg1N F hG hk20 0 (by decide) (kw467 F.kd) (v := .ref (g (20 + 1))) rfl dX5_foresee_68 ?_
    obtain ⟨r23, hc22, h⟩ := cb1_e h
    refine k_i (r_runVN F hG (c_X3_barricades l D ca g hk21 hc22) (kd_lt hk21 (by decide)) (gd3 hk21) rfl (kw340 F.kd) (kw177 F.kd) (ks_X3_barricades F.kd) (kw3 F.kd) (kw178 F.kd) yd_X3_barricades ⟨Nat.le_of_ble_eq_true rfl, Nat.le_of_ble_eq_true rfl⟩ rfl hl.1 rfl (Nat.le_of_ble_eq_true rfl) dX5_foresee_71 ⟨Nat.le_of_ble_eq_true rfl, Nat.le_of_ble_eq_true rfl⟩) hG (fun H locs hG => ?_)
    obtain ⟨rfl, rfl⟩ := som2s h
    exact end_i F hr hlk hG dX5_foresee_74
  have h := ite_f h c19
  refine lv_lookup (off := 46) (tgt := 75) hx hb dX5_foresee_29 (by decide) (lso1 c15 c19) (by decide) ?_
  refine lv_aload_n hx hb dX5_foresee_75 rfl (lv_at hl 0 rfl) ?_
  have hk24 := (show kd 41 = 4 from rfl)
  refine xg5 F hG ha0 2 (by decide) (kw510 F.kd) (v := .ref (g 41)) rfl dX5_foresee_76 ?_
  refine lv_aload_n hx hb dX5_foresee_79 rfl (lv_at hl 0 rfl) ?_
  have hk25 := (show kd 20 = 1 from rfl)
  refine xg5 F hG ha0 1 (by decide) (kw509 F.kd) (v := .ref (g 20)) rfl dX5_foresee_80 ?_
  have hk26 := kt_quarter hk25
  refine xg1N F hG hk25 0 (by decide) (kw467 F.kd) (v := .ref (g (20 + 1))) rfl dX5_foresee_83 ?_
  obtain ⟨M29, r28, hc27, h⟩ := cb2_e h
  refine k_i (r_runVN F hG (c_X4_fewestToShut l D ca g hk24 hk26 hc27) (kd_lt hk24 (by decide)) (gd4 hk24) rfl (kw223 F.kd) (kw225 F.kd) (ks_X4_fewestToShut F.kd) (kw6 F.kd) (kw226 F.kd) yd_X4_fewestToShut ⟨Nat.le_of_ble_eq_true rfl, Nat.le_of_ble_eq_true rfl⟩ rfl hl.1 rfl (Nat.le_of_ble_eq_true rfl) dX5_foresee_86 ⟨Nat.le_of_ble_eq_true rfl, Nat.le_of_ble_eq_true rfl⟩) hG (fun H locs hG => ?_)
  obtain ⟨rfl, rfl⟩ := som2s h
  exact end_i F hr hlk hG dX5_foresee_89
set_option maxHeartbeats 4000000 in
set_option maxRecDepth 100000 in
theorem nm_X5_advise_L30_w {p : Program} {l : Launch} {e : Env} {s : State} {m : MethodId} {args : Array Value} {below : List Frame} {meth : Method} {c : Code} {Q : State → Prop} {D : va_G} {ca : vCA} {g : Nat → Nat} {fu : Nat} {q0 : Nat} {y1 : Int32} {out : Mem × Int32} (F : FX p m c cX5_advise 6 s D ca g RX5) (hq0 : kd q0 = 5)
    (K0 : ∀ (M1 : Mem) (u2 : Int32) (H : Heap) (locs : List Loc) (ls : Array Slot), out = (M1, u2) → GW D ca g s M1 H locs → lv_has ls 6 [(2, .int u2)] → W p l e ({ frames := 7, cells := 0, slots := 0, locals := 140 }) s m args below meth c H locs 0 0 Q (F0 m 64 ls [])) :
    ∀ (n : Nat) (M : Mem) (z2 : Int32) (z3 : Int32) (z4 : Int32), m_X5_advise_L30 fu q0 y1 n M z2 z3 z4 = some out → ∀ (H : Heap) (locs : List Loc) (ls : Array Slot), GW D ca g s M H locs → lv_has ls 6 [(0, .ref (g q0)), (1, .int y1), (2, .int z2), (3, .int z3), (4, .int z4)] → W p l e ({ frames := 7, cells := 0, slots := 0, locals := 140 }) s m args below meth c H locs 0 0 Q (F0 m 30 ls []) := by
  have hx := F.1
  have hb := F.2.1
  intro n
  induction n with
  | zero =>
    intro M z2 z3 z4 h
    exact absurd h (by simp [m_X5_advise_L30])
  | succ n ih =>
    intro M z2 z3 z4 h H locs ls hG hl
    rw [m_X5_advise_L30] at h
    refine lv_iload hx hb dX5_advise_30 (lv_at hl 4 rfl) ?_
    refine lv_bipush (v := 12) hx hb dX5_advise_32 (by decide) ?_
    refine lv_icmp_ge (tgt := 64) hx hb dX5_advise_34 (by decide) (fun c11 => ?_) (fun c11 => ?_)
    · have h := ite_t h c11
      exact K0 _ _ _ _ _ (som1 h).symm hG (lv_sub hl [2] rfl)
    · have h := ite_f h c11
      refine lv_aload_n hx hb dX5_advise_37 rfl (lv_at hl 0 rfl) ?_
      refine lv_iload_n hx hb dX5_advise_38 rfl (lv_at hl 1 rfl) ?_
      refine lv_iload hx hb dX5_advise_39 (lv_at hl 4 rfl) ?_
      obtain ⟨M14, r13, hc12, h⟩ := cb2_e h
      refine k_i (r_runV F hG (c_X5_shutsBehind l D ca g hq0 hc12) (kd_lt hq0 (by decide)) (gd5 hq0) rfl (kw346 F.kd) (kw348 F.kd) (ks_X5_shutsBehind F.kd) (kw1 F.kd) (kw349 F.kd) yd_X5_shutsBehind ⟨Nat.le_of_ble_eq_true rfl, Nat.le_of_ble_eq_true rfl⟩ rfl hl.1 rfl (Nat.le_of_ble_eq_true rfl) dX5_advise_41 ⟨Nat.le_of_ble_eq_true rfl, Nat.le_of_ble_eq_true rfl⟩) hG (fun H locs hG => ?_)
      refine lv_istore (lv' := [(5, .int r13), (0, .ref (g q0)), (1, .int y1), (2, .int z2), (3, .int z3), (4, .int z4)]) hx hb dX5_advise_44 hl (by decide) rfl (fun ls hl => ?_)
      refine lv_iload hx hb dX5_advise_46 (lv_at hl 0 rfl) ?_
      refine lv_iload_n hx hb dX5_advise_48 rfl (lv_at hl 4 rfl) ?_
      refine lv_icmp_ge (tgt := 58) hx hb dX5_advise_49 (by decide) (fun c15 => ?_) (fun c15 => ?_)
      · have h := ite_t h c15
        obtain ⟨x16, ex16, h⟩ := mlet_e h
        refine lv_iinc (v := x16) (lv' := [(4, .int x16), (5, .int r13), (0, .ref (g q0)), (1, .int y1), (2, .int z2), (3, .int z3)]) hx hb dX5_advise_58 hl (k := 5) rfl (by rw [ex16]; rfl) (by decide) rfl (fun ls hl => ?_)
        refine lv_goto (tgt := 30) hx hb dX5_advise_61 (by decide) ?_
        exact ih M14 z2 z3 x16 h _ _ _ hG (lv_sub hl [2, 3, 4, 5, 0] rfl)
      · have h := ite_f h c15
        refine lv_iload hx hb dX5_advise_52 (lv_at hl 0 rfl) ?_
        refine lv_istore_n (lv' := [(3, .int r13), (5, .int r13), (0, .ref (g q0)), (1, .int y1), (2, .int z2), (4, .int z4)]) hx hb dX5_advise_54 rfl hl (by decide) rfl (fun ls hl => ?_)
        refine lv_iload hx hb dX5_advise_55 (lv_at hl 5 rfl) ?_
        refine lv_istore_n (lv' := [(2, .int z4), (3, .int r13), (5, .int r13), (0, .ref (g q0)), (1, .int y1), (4, .int z4)]) hx hb dX5_advise_57 rfl hl (by decide) rfl (fun ls hl => ?_)
        obtain ⟨x17, ex17, h⟩ := mlet_e h
        refine lv_iinc (v := x17) (lv' := [(4, .int x17), (2, .int z4), (3, .int r13), (5, .int r13), (0, .ref (g q0)), (1, .int y1)]) hx hb dX5_advise_58 hl (k := 5) rfl (by rw [ex17]; rfl) (by decide) rfl (fun ls hl => ?_)
        refine lv_goto (tgt := 30) hx hb dX5_advise_61 (by decide) ?_
        exact ih M14 z4 r13 x17 h _ _ _ hG (lv_sub hl [4, 5, 1, 2, 0] rfl)
set_option maxHeartbeats 4000000 in
set_option maxRecDepth 100000 in
theorem n_X5_advise (l : Launch) (D : va_G) (ca : vCA) (g : Nat → Nat) {fu : Nat} {M : Mem} {a0 : Nat} {x1 : Int32} {M' : Mem} {r : Int32} (ha0 : kd a0 = 5) (h : m_X5_advise fu M a0 x1 = some (.inr (M', r))) : cM l yX5_advise cX5_advise 6 (some .int) { frames := 7, cells := 0, slots := 0, locals := 140 } D ca g M [.ref (g a0), .int x1] (fun sz => cQi D ca g sz M' r) := by
  refine mk_Met (by decide) (Nat.le_of_ble_eq_true rfl) ?_
  intro p e s m below meth c F hr hlk hnm hG ls hl
  have hx := F.1
  have hb := F.2.1
  replace hl : lv_has ls 6 [(0, .ref (g a0)), (1, .int x1)] := hl
  unfold m_X5_advise at h
  refine lv_aload_n hx hb dX5_advise_0 rfl (lv_at hl 0 rfl) ?_
  refine lv_iload_n hx hb dX5_advise_1 rfl (lv_at hl 1 rfl) ?_
  obtain ⟨_, hc3, h⟩ := xb_n h
  refine k_v (r_runV F hG (n_X5_needCrowd l D ca g ha0 hc3) (kd_lt ha0 (by decide)) (gd5 ha0) rfl (kw102 F.kd) (kw104 F.kd) (ks_X5_needCrowd F.kd) (kw1 F.kd) (kw106 F.kd) yd_X5_needCrowd ⟨Nat.le_of_ble_eq_true rfl, Nat.le_of_ble_eq_true rfl⟩ rfl hl.1 rfl (Nat.le_of_ble_eq_true rfl) dX5_advise_2 ⟨Nat.le_of_ble_eq_true rfl, Nat.le_of_ble_eq_true rfl⟩) hG (fun H locs hG => ?_)
  refine lv_aload_n hx hb dX5_advise_5 rfl (lv_at hl 0 rfl) ?_
  have hk4 := (show kd 0 = 1 from rfl)
  refine xg5 F hG ha0 0 (by decide) (kw508 F.kd) (v := .ref (g 0)) rfl dX5_advise_6 ?_
  have hk5 := kt_crowds hk4
  refine xg1N F hG hk4 1 (by decide) (kw469 F.kd) (v := .ref (g (0 + 3))) rfl dX5_advise_9 ?_
  refine lv_iload_n hx hb dX5_advise_12 rfl (lv_at hl 1 rfl) ?_
  obtain ⟨hi6, h⟩ := chk_e h
  have hk7 := kt_elC hk5 hi6
  refine r_aldC F hG hk5 hi6 dX5_advise_13 ?_
  obtain ⟨r9, hc8, h⟩ := cb1_e h
  refine k_i (r_runVN F hG (c_X0_isScattered l D ca g hk7 hc8) (kd_lt hk7 (by decide)) (gd0 hk7) rfl (kw345 F.kd) (kw135 F.kd) (ks_X0_isScattered F.kd) (kw4 F.kd) (kw136 F.kd) yd_X0_isScattered ⟨Nat.le_of_ble_eq_true rfl, Nat.le_of_ble_eq_true rfl⟩ rfl hl.1 rfl (Nat.le_of_ble_eq_true rfl) dX5_advise_14 ⟨Nat.le_of_ble_eq_true rfl, Nat.le_of_ble_eq_true rfl⟩) hG (fun H locs hG => ?_)
  refine lv_if_eq (tgt := 22) hx hb dX5_advise_17 (by decide) (fun c10 => ?_) (fun c10 => ?_)
  · have h := ite_t h c10
    refine lv_iconst (v := (-1)) hx hb dX5_advise_22 (by decide) ?_
    refine lv_istore_n (lv' := [(2, .int (-1)), (0, .ref (g a0)), (1, .int x1)]) hx hb dX5_advise_23 rfl hl (by decide) rfl (fun ls hl => ?_)
    refine lv_bipush (v := 108) hx hb dX5_advise_24 (by decide) ?_
    refine lv_istore_n (lv' := [(3, .int 108), (2, .int (-1)), (0, .ref (g a0)), (1, .int x1)]) hx hb dX5_advise_26 rfl hl (by decide) rfl (fun ls hl => ?_)
    refine lv_iconst (v := 0) hx hb dX5_advise_27 (by decide) ?_
    refine lv_istore (lv' := [(4, .int 0), (3, .int 108), (2, .int (-1)), (0, .ref (g a0)), (1, .int x1)]) hx hb dX5_advise_28 hl (by decide) rfl (fun ls hl => ?_)
    obtain ⟨o18, ho19, h⟩ := cb1_e h
    refine nm_X5_advise_L30_w (out := o18) F ha0 ?_ _ _ _ _ _ ho19 _ _ _ hG (lv_sub hl [3, 4, 2, 1, 0] rfl)
    · intro M20 x21 H locs ls eo hG hl
      subst o18
      have h := up2_e h
      refine lv_iload_n hx hb dX5_advise_64 rfl (lv_at hl 0 rfl) ?_
      obtain ⟨rfl, rfl⟩ := som2s h
      exact end_i F hr hlk hG dX5_advise_65
  · have h := ite_f h c10
    refine lv_iconst (v := (-1)) hx hb dX5_advise_20 (by decide) ?_
    obtain ⟨rfl, rfl⟩ := som2s h
    exact end_i F hr hlk hG dX5_advise_21

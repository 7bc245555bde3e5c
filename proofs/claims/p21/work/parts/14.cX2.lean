set_option maxHeartbeats 4000000 in
set_option maxRecDepth 100000 in
theorem c_X2_nextDirection (l : Launch) (D : va_G) (ca : vCA) (g : Nat → Nat) {fu : Nat} {M : Mem} {a0 : Nat} {r : Int32} (ha0 : kd a0 = 2) (h : m_X2_nextDirection fu M a0 = some r) : cM l yX2_nextDirection cX2_nextDirection 1 (some .int) { frames := 0, cells := 0, slots := 0, locals := 0 } D ca g M [.ref (g a0)] (fun sz => cQi D ca g sz M r) := by
  refine mk_Met (by decide) (Nat.le_of_ble_eq_true rfl) ?_
  intro p e s m below meth c F hr hlk hnm hG ls hl
  have hx := F.1
  have hb := F.2.1
  replace hl : lv_has ls 1 [(0, .ref (g a0))] := hl
  unfold m_X2_nextDirection at h
  refine lv_aload_n hx hb dX2_nextDirection_0 rfl (lv_at hl 0 rfl) ?_
  refine xg2 F hG ha0 2 (by decide) (kw454 F.kd) (v := .int (M a0 2)) rfl dX2_nextDirection_1 ?_
  refine lv_iconst (v := 2) hx hb dX2_nextDirection_4 (by decide) ?_
  refine lv_aload_n hx hb dX2_nextDirection_5 rfl (lv_at hl 0 rfl) ?_
  refine xg2 F hG ha0 3 (by decide) (kw456 F.kd) (v := .int (M a0 3)) rfl dX2_nextDirection_6 ?_
  refine lv_imul hx hb dX2_nextDirection_9 ?_
  refine lv_ishr hx hb dX2_nextDirection_10 ?_
  refine lv_iconst (v := 3) hx hb dX2_nextDirection_11 (by decide) ?_
  refine lv_iand hx hb dX2_nextDirection_12 ?_
  obtain rfl := som1 h
  exact end_i F hr hlk hG dX2_nextDirection_13
set_option maxHeartbeats 4000000 in
set_option maxRecDepth 100000 in
theorem c_X2_moveOn (l : Launch) (D : va_G) (ca : vCA) (g : Nat → Nat) {fu : Nat} {M : Mem} {a0 : Nat} {a1 : Nat} {M' : Mem} (ha0 : kd a0 = 2) (ha1 : kd a1 = 3) (h : m_X2_moveOn fu M a0 a1 = some M') : cM l yX2_moveOn cX2_moveOn 3 none { frames := 2, cells := 0, slots := 0, locals := 42 } D ca g M [.ref (g a0), .ref (g a1)] (fun sz => cQv D ca g sz M') := by
  refine mk_Met (by decide) (Nat.le_of_ble_eq_true rfl) ?_
  intro p e s m below meth c F hr hlk hnm hG ls hl
  have hx := F.1
  have hb := F.2.1
  replace hl : lv_has ls 3 [(0, .ref (g a0)), (1, .ref (g a1))] := hl
  unfold m_X2_moveOn at h
  refine lv_aload_n hx hb dX2_moveOn_0 rfl (lv_at hl 0 rfl) ?_
  refine xg2 F hG ha0 0 (by decide) (kw450 F.kd) (v := .int (M a0 0)) rfl dX2_moveOn_1 ?_
  refine lv_aload_n hx hb dX2_moveOn_4 rfl (lv_at hl 0 rfl) ?_
  obtain ⟨r4, hc3, h⟩ := cb1_e h
  refine k_i (r_runV F hG (c_X2_nextDirection l D ca g ha0 hc3) (kd_lt ha0 (by decide)) (gd2 ha0) rfl (kw311 F.kd) (kw156 F.kd) (ks_X2_nextDirection F.kd) (kw5 F.kd) (kw158 F.kd) yd_X2_nextDirection ⟨Nat.le_of_ble_eq_true rfl, Nat.le_of_ble_eq_true rfl⟩ rfl hl.1 rfl (Nat.le_of_ble_eq_true rfl) dX2_moveOn_5 ⟨Nat.le_of_ble_eq_true rfl, Nat.le_of_ble_eq_true rfl⟩) hG (fun H locs hG => ?_)
  obtain ⟨r6, hc5, h⟩ := cb1_e h
  refine k_i (r_runSN F hG (c_X3_next l D ca g hc5) (kw312 F.kd) (kw217 F.kd) (kw3 F.kd) (kw218 F.kd) yd_X3_next ⟨Nat.le_of_ble_eq_true rfl, Nat.le_of_ble_eq_true rfl⟩ rfl hl.1 rfl (Nat.le_of_ble_eq_true rfl) dX2_moveOn_8 ⟨Nat.le_of_ble_eq_true rfl, Nat.le_of_ble_eq_true rfl⟩) hG (fun H locs hG => ?_)
  refine lv_istore_n (lv' := [(2, .int r6), (0, .ref (g a0)), (1, .ref (g a1))]) hx hb dX2_moveOn_11 rfl hl (by decide) rfl (fun ls hl => ?_)
  refine lv_aload_n hx hb dX2_moveOn_12 rfl (lv_at hl 2 rfl) ?_
  refine lv_iload_n hx hb dX2_moveOn_13 rfl (lv_at hl 0 rfl) ?_
  obtain ⟨r8, hc7, h⟩ := cb1_e h
  refine k_i (r_runVN F hG (c_X3_isFree l D ca g ha1 hc7) (kd_lt ha1 (by decide)) (gd3 ha1) rfl (kw313 F.kd) (kw202 F.kd) (ks_X3_isFree F.kd) (kw3 F.kd) (kw203 F.kd) yd_X3_isFree ⟨Nat.le_of_ble_eq_true rfl, Nat.le_of_ble_eq_true rfl⟩ rfl hl.1 rfl (Nat.le_of_ble_eq_true rfl) dX2_moveOn_14 ⟨Nat.le_of_ble_eq_true rfl, Nat.le_of_ble_eq_true rfl⟩) hG (fun H locs hG => ?_)
  refine lv_if_eq (tgt := 25) hx hb dX2_moveOn_17 (by decide) (fun c9 => ?_) (fun c9 => ?_)
  · have h := ite_t h c9
    refine lv_aload_n hx hb dX2_moveOn_25 rfl (lv_at hl 1 rfl) ?_
    refine lv_aload_n hx hb dX2_moveOn_26 rfl (lv_at hl 1 rfl) ?_
    refine xg2 F hG ha0 3 (by decide) (kw456 F.kd) (v := .int (M a0 3)) rfl dX2_moveOn_27 ?_
    refine lv_iconst (v := 1) hx hb dX2_moveOn_30 (by decide) ?_
    refine lv_iadd hx hb dX2_moveOn_31 ?_
    refine lv_aload_n hx hb dX2_moveOn_32 rfl (lv_at hl 1 rfl) ?_
    refine xg2 F hG ha0 1 (by decide) (kw453 F.kd) (v := .int (M a0 1)) rfl dX2_moveOn_33 ?_
    refine lv_icmp_ge (tgt := 48) hx hb dX2_moveOn_36 (by decide) (fun c10 => ?_) (fun c10 => ?_)
    · have h := ite_t h c10
      refine lv_iconst (v := 0) hx hb dX2_moveOn_48 (by decide) ?_
      obtain ⟨M11, eM11, h⟩ := mlet_e h
      refine xp2 F hG ha0 eM11 rfl (by decide) (kw456 F.kd) rfl rfl rfl dX2_moveOn_49 (fun H locs hG => ?_)
      obtain rfl := som1 h
      exact end_v F hr hlk hG dX2_moveOn_52
    · have h := ite_f h c10
      refine lv_aload_n hx hb dX2_moveOn_39 rfl (lv_at hl 1 rfl) ?_
      refine xg2 F hG ha0 3 (by decide) (kw456 F.kd) (v := .int (M a0 3)) rfl dX2_moveOn_40 ?_
      refine lv_iconst (v := 1) hx hb dX2_moveOn_43 (by decide) ?_
      refine lv_iadd hx hb dX2_moveOn_44 ?_
      refine lv_goto (tgt := 49) hx hb dX2_moveOn_45 (by decide) ?_
      obtain ⟨M12, eM12, h⟩ := mlet_e h
      refine xp2 F hG ha0 eM12 rfl (by decide) (kw456 F.kd) rfl rfl rfl dX2_moveOn_49 (fun H locs hG => ?_)
      obtain rfl := som1 h
      exact end_v F hr hlk hG dX2_moveOn_52
  · have h := ite_f h c9
    refine lv_aload_n hx hb dX2_moveOn_20 rfl (lv_at hl 1 rfl) ?_
    refine lv_iload_n hx hb dX2_moveOn_21 rfl (lv_at hl 0 rfl) ?_
    obtain ⟨M13, eM13, h⟩ := mlet_e h
    refine xp2 F hG ha0 eM13 rfl (by decide) (kw450 F.kd) rfl rfl rfl dX2_moveOn_22 (fun H locs hG => ?_)
    refine lv_aload_n hx hb dX2_moveOn_25 rfl (lv_at hl 1 rfl) ?_
    refine lv_aload_n hx hb dX2_moveOn_26 rfl (lv_at hl 1 rfl) ?_
    refine xg2 F hG ha0 3 (by decide) (kw456 F.kd) (v := .int (M13 a0 3)) rfl dX2_moveOn_27 ?_
    refine lv_iconst (v := 1) hx hb dX2_moveOn_30 (by decide) ?_
    refine lv_iadd hx hb dX2_moveOn_31 ?_
    refine lv_aload_n hx hb dX2_moveOn_32 rfl (lv_at hl 1 rfl) ?_
    refine xg2 F hG ha0 1 (by decide) (kw453 F.kd) (v := .int (M13 a0 1)) rfl dX2_moveOn_33 ?_
    refine lv_icmp_ge (tgt := 48) hx hb dX2_moveOn_36 (by decide) (fun c14 => ?_) (fun c14 => ?_)
    · have h := ite_t h c14
      refine lv_iconst (v := 0) hx hb dX2_moveOn_48 (by decide) ?_
      obtain ⟨M15, eM15, h⟩ := mlet_e h
      refine xp2 F hG ha0 eM15 rfl (by decide) (kw456 F.kd) rfl rfl rfl dX2_moveOn_49 (fun H locs hG => ?_)
      obtain rfl := som1 h
      exact end_v F hr hlk hG dX2_moveOn_52
    · have h := ite_f h c14
      refine lv_aload_n hx hb dX2_moveOn_39 rfl (lv_at hl 1 rfl) ?_
      refine xg2 F hG ha0 3 (by decide) (kw456 F.kd) (v := .int (M13 a0 3)) rfl dX2_moveOn_40 ?_
      refine lv_iconst (v := 1) hx hb dX2_moveOn_43 (by decide) ?_
      refine lv_iadd hx hb dX2_moveOn_44 ?_
      refine lv_goto (tgt := 49) hx hb dX2_moveOn_45 (by decide) ?_
      obtain ⟨M16, eM16, h⟩ := mlet_e h
      refine xp2 F hG ha0 eM16 rfl (by decide) (kw456 F.kd) rfl rfl rfl dX2_moveOn_49 (fun H locs hG => ?_)
      obtain rfl := som1 h
      exact end_v F hr hlk hG dX2_moveOn_52
set_option maxHeartbeats 4000000 in
set_option maxRecDepth 100000 in
theorem c_X2_become (l : Launch) (D : va_G) (ca : vCA) (g : Nat → Nat) {fu : Nat} {M : Mem} {a0 : Nat} {a1 : Nat} {M' : Mem} (ha0 : kd a0 = 2) (ha1 : kd a1 = 2) (h : m_X2_become fu M a0 a1 = some M') : cM l yX2_become cX2_become 2 none { frames := 0, cells := 0, slots := 0, locals := 0 } D ca g M [.ref (g a0), .ref (g a1)] (fun sz => cQv D ca g sz M') := by
  refine mk_Met (by decide) (Nat.le_of_ble_eq_true rfl) ?_
  intro p e s m below meth c F hr hlk hnm hG ls hl
  have hx := F.1
  have hb := F.2.1
  replace hl : lv_has ls 2 [(0, .ref (g a0)), (1, .ref (g a1))] := hl
  unfold m_X2_become at h
  refine lv_aload_n hx hb dX2_become_0 rfl (lv_at hl 0 rfl) ?_
  refine lv_aload_n hx hb dX2_become_1 rfl (lv_at hl 1 rfl) ?_
  refine xg2 F hG ha1 0 (by decide) (kw450 F.kd) (v := .int (M a1 0)) rfl dX2_become_2 ?_
  obtain ⟨M3, eM3, h⟩ := mlet_e h
  refine xp2 F hG ha0 eM3 rfl (by decide) (kw450 F.kd) rfl rfl rfl dX2_become_5 (fun H locs hG => ?_)
  refine lv_aload_n hx hb dX2_become_8 rfl (lv_at hl 0 rfl) ?_
  refine lv_aload_n hx hb dX2_become_9 rfl (lv_at hl 1 rfl) ?_
  refine xg2 F hG ha1 1 (by decide) (kw453 F.kd) (v := .int (M3 a1 1)) rfl dX2_become_10 ?_
  obtain ⟨M4, eM4, h⟩ := mlet_e h
  refine xp2 F hG ha0 eM4 rfl (by decide) (kw453 F.kd) rfl rfl rfl dX2_become_13 (fun H locs hG => ?_)
  refine lv_aload_n hx hb dX2_become_16 rfl (lv_at hl 0 rfl) ?_
  refine lv_aload_n hx hb dX2_become_17 rfl (lv_at hl 1 rfl) ?_
  refine xg2 F hG ha1 2 (by decide) (kw454 F.kd) (v := .int (M4 a1 2)) rfl dX2_become_18 ?_
  obtain ⟨M5, eM5, h⟩ := mlet_e h
  refine xp2 F hG ha0 eM5 rfl (by decide) (kw454 F.kd) rfl rfl rfl dX2_become_21 (fun H locs hG => ?_)
  refine lv_aload_n hx hb dX2_become_24 rfl (lv_at hl 0 rfl) ?_
  refine lv_aload_n hx hb dX2_become_25 rfl (lv_at hl 1 rfl) ?_
  refine xg2 F hG ha1 3 (by decide) (kw456 F.kd) (v := .int (M5 a1 3)) rfl dX2_become_26 ?_
  obtain ⟨M6, eM6, h⟩ := mlet_e h
  refine xp2 F hG ha0 eM6 rfl (by decide) (kw456 F.kd) rfl rfl rfl dX2_become_29 (fun H locs hG => ?_)
  obtain rfl := som1 h
  exact end_v F hr hlk hG dX2_become_32

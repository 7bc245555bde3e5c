set_option maxHeartbeats 4000000 in
set_option maxRecDepth 100000 in
theorem c_J6_signum_0f7a4 (l : Launch) (D : va_G) (ca : vCA) (g : Nat → Nat) {fu : Nat} {M : Mem} {x0 : Int32} {r : Int32}  (h : m_J6_signum_0f7a4 fu M x0 = some r) : cM l yJ6_signum_0f7a4 cJ6_signum_0f7a4 1 (some .int) { frames := 0, cells := 0, slots := 0, locals := 0 } D ca g M [.int x0] (fun sz => cQi D ca g sz M r) := by
  refine mk_Met (by decide) (Nat.le_of_ble_eq_true rfl) ?_
  intro p e s m below meth c F hr hlk hnm hG ls hl
  have hx := F.1
  have hb := F.2.1
  replace hl : lv_has ls 1 [(0, .int x0)] := hl
  unfold m_J6_signum_0f7a4 at h
  refine lv_iload_n hx hb dJ6_signum_0f7a4_0 rfl (lv_at hl 0 rfl) ?_
  refine lv_bipush (v := 31) hx hb dJ6_signum_0f7a4_1 (by decide) ?_
  refine lv_ishr hx hb dJ6_signum_0f7a4_3 ?_
  refine lv_iload_n hx hb dJ6_signum_0f7a4_4 rfl (lv_at hl 0 rfl) ?_
  refine lv_ineg hx hb dJ6_signum_0f7a4_5 ?_
  refine lv_bipush (v := 31) hx hb dJ6_signum_0f7a4_6 (by decide) ?_
  refine lv_iushr (v := (((-x0)).toUInt32 >>> ((31 : Int32).toUInt32 &&& Int32.toUInt32 31)).toInt32) hx hb dJ6_signum_0f7a4_8 rfl ?_
  refine lv_ior hx hb dJ6_signum_0f7a4_9 ?_
  obtain rfl := som1 h
  exact end_i F hr hlk hG dJ6_signum_0f7a4_10
set_option maxHeartbeats 4000000 in
set_option maxRecDepth 100000 in
theorem c_X7_isIn (l : Launch) (D : va_G) (ca : vCA) (g : Nat → Nat) {fu : Nat} {M : Mem} {x0 : Int32} {x1 : Int32} {x2 : Int32} {r : Int32}  (h : m_X7_isIn fu M x0 x1 x2 = some r) : cM l yX7_isIn cX7_isIn 3 (some .boolean) { frames := 0, cells := 0, slots := 0, locals := 0 } D ca g M [.int x0, .int x1, .int x2] (fun sz => cQi D ca g sz M r) := by
  refine mk_Met (by decide) (Nat.le_of_ble_eq_true rfl) ?_
  intro p e s m below meth c F hr hlk hnm hG ls hl
  have hx := F.1
  have hb := F.2.1
  replace hl : lv_has ls 3 [(0, .int x0), (1, .int x1), (2, .int x2)] := hl
  unfold m_X7_isIn at h
  refine lv_iload_n hx hb dX7_isIn_0 rfl (lv_at hl 0 rfl) ?_
  refine lv_iload_n hx hb dX7_isIn_1 rfl (lv_at hl 1 rfl) ?_
  refine lv_icmp_lt (tgt := 14) hx hb dX7_isIn_2 (by decide) (fun c4 => ?_) (fun c4 => ?_)
  · have h := ite_t h c4
    refine lv_iconst (v := 0) hx hb dX7_isIn_14 (by decide) ?_
    obtain rfl := som1 h
    exact end_z F hr hlk (by decide) hG dX7_isIn_15
  · have h := ite_f h c4
    refine lv_iload_n hx hb dX7_isIn_5 rfl (lv_at hl 0 rfl) ?_
    refine lv_iload_n hx hb dX7_isIn_6 rfl (lv_at hl 2 rfl) ?_
    refine lv_icmp_gt (tgt := 14) hx hb dX7_isIn_7 (by decide) (fun c5 => ?_) (fun c5 => ?_)
    · have h := ite_t h c5
      refine lv_iconst (v := 0) hx hb dX7_isIn_14 (by decide) ?_
      obtain rfl := som1 h
      exact end_z F hr hlk (by decide) hG dX7_isIn_15
    · have h := ite_f h c5
      refine lv_iconst (v := 1) hx hb dX7_isIn_10 (by decide) ?_
      refine lv_goto (tgt := 15) hx hb dX7_isIn_11 (by decide) ?_
      obtain rfl := som1 h
      exact end_z F hr hlk (by decide) hG dX7_isIn_15
set_option maxHeartbeats 4000000 in
set_option maxRecDepth 100000 in
theorem c_X7_isCell (l : Launch) (D : va_G) (ca : vCA) (g : Nat → Nat) {fu : Nat} {M : Mem} {x0 : Int32} {x1 : Int32} {r : Int32}  (h : m_X7_isCell fu M x0 x1 = some r) : cM l yX7_isCell cX7_isCell 2 (some .boolean) { frames := 1, cells := 0, slots := 0, locals := 22 } D ca g M [.int x0, .int x1] (fun sz => cQi D ca g sz M r) := by
  refine mk_Met (by decide) (Nat.le_of_ble_eq_true rfl) ?_
  intro p e s m below meth c F hr hlk hnm hG ls hl
  have hx := F.1
  have hb := F.2.1
  replace hl : lv_has ls 2 [(0, .int x0), (1, .int x1)] := hl
  unfold m_X7_isCell at h
  refine lv_iload_n hx hb dX7_isCell_0 rfl (lv_at hl 0 rfl) ?_
  refine lv_iconst (v := 0) hx hb dX7_isCell_1 (by decide) ?_
  refine lv_bipush (v := 11) hx hb dX7_isCell_2 (by decide) ?_
  obtain ⟨r4, hc3, h⟩ := cb1_e h
  refine k_i (r_runS F hG (c_X7_isIn l D ca g hc3) (kw728 F.kd) (kw729 F.kd) (kw7 F.kd) (kw730 F.kd) yd_X7_isIn ⟨Nat.le_of_ble_eq_true rfl, Nat.le_of_ble_eq_true rfl⟩ rfl hl.1 rfl (Nat.le_of_ble_eq_true rfl) dX7_isCell_4 ⟨Nat.le_of_ble_eq_true rfl, Nat.le_of_ble_eq_true rfl⟩) hG (fun H locs hG => ?_)
  refine lv_if_eq (tgt := 24) hx hb dX7_isCell_7 (by decide) (fun c5 => ?_) (fun c5 => ?_)
  · have h := ite_t h c5
    refine lv_iconst (v := 0) hx hb dX7_isCell_24 (by decide) ?_
    obtain rfl := som1 h
    exact end_z F hr hlk (by decide) hG dX7_isCell_25
  · have h := ite_f h c5
    refine lv_iload_n hx hb dX7_isCell_10 rfl (lv_at hl 1 rfl) ?_
    refine lv_iconst (v := 0) hx hb dX7_isCell_11 (by decide) ?_
    refine lv_bipush (v := 8) hx hb dX7_isCell_12 (by decide) ?_
    obtain ⟨r7, hc6, h⟩ := cb1_e h
    refine k_i (r_runS F hG (c_X7_isIn l D ca g hc6) (kw728 F.kd) (kw729 F.kd) (kw7 F.kd) (kw730 F.kd) yd_X7_isIn ⟨Nat.le_of_ble_eq_true rfl, Nat.le_of_ble_eq_true rfl⟩ rfl hl.1 rfl (Nat.le_of_ble_eq_true rfl) dX7_isCell_14 ⟨Nat.le_of_ble_eq_true rfl, Nat.le_of_ble_eq_true rfl⟩) hG (fun H locs hG => ?_)
    refine lv_if_eq (tgt := 24) hx hb dX7_isCell_17 (by decide) (fun c8 => ?_) (fun c8 => ?_)
    · have h := ite_t h c8
      refine lv_iconst (v := 0) hx hb dX7_isCell_24 (by decide) ?_
      obtain rfl := som1 h
      exact end_z F hr hlk (by decide) hG dX7_isCell_25
    · have h := ite_f h c8
      refine lv_iconst (v := 1) hx hb dX7_isCell_20 (by decide) ?_
      refine lv_goto (tgt := 25) hx hb dX7_isCell_21 (by decide) ?_
      obtain rfl := som1 h
      exact end_z F hr hlk (by decide) hG dX7_isCell_25
set_option maxHeartbeats 4000000 in
set_option maxRecDepth 100000 in
theorem c_X7_beside (l : Launch) (D : va_G) (ca : vCA) (g : Nat → Nat) {fu : Nat} {M : Mem} {x0 : Int32} {x1 : Int32} {r : Int32}  (h : m_X7_beside fu M x0 x1 = some r) : cM l yX7_beside cX7_beside 4 (some .int) { frames := 2, cells := 0, slots := 0, locals := 43 } D ca g M [.int x0, .int x1] (fun sz => cQi D ca g sz M r) := by
  refine mk_Met (by decide) (Nat.le_of_ble_eq_true rfl) ?_
  intro p e s m below meth c F hr hlk hnm hG ls hl
  have hx := F.1
  have hb := F.2.1
  replace hl : lv_has ls 4 [(0, .int x0), (1, .int x1)] := hl
  unfold m_X7_beside at h
  obtain ⟨tx, ty, hZx, hZy, hTx, hTy⟩ := F.ks
  refine lv_iload_n hx hb dX7_beside_0 rfl (lv_at hl 0 rfl) ?_
  refine lv_bipush (v := 12) hx hb dX7_beside_1 (by decide) ?_
  refine lv_irem hx hb dX7_beside_3 (by decide) ?_
  refine va_gets (ref := RX7) hx hb hZx hG.2 F.2.2.2.1 (kw832 F.kd) (fun _ h9 => h9) dX7_beside_4 ?_
  refine lv_iload_n hx hb dX7_beside_7 rfl (lv_at hl 1 rfl) ?_
  obtain ⟨hi3, h⟩ := chk_e h
  refine va_ti (v := .int (vX x1)) hx hb hTx hG.2 (inb_vp hi3) rfl dX7_beside_8 ?_
  refine lv_iadd hx hb dX7_beside_9 ?_
  refine lv_topi (fun x4 ex4 => ?_)
  have h := mlet_n h ex4
  refine lv_istore_n (lv' := [(2, .int x4), (0, .int x0), (1, .int x1)]) hx hb dX7_beside_10 rfl hl (by decide) rfl (fun ls hl => ?_)
  refine lv_iload_n hx hb dX7_beside_11 rfl (lv_at hl 1 rfl) ?_
  refine lv_bipush (v := 12) hx hb dX7_beside_12 (by decide) ?_
  refine lv_idiv hx hb dX7_beside_14 (by decide) ?_
  refine va_gets (ref := RX7) hx hb hZy hG.2 F.2.2.2.1 (kw834 F.kd) (fun _ h9 => h9) dX7_beside_15 ?_
  refine lv_iload_n hx hb dX7_beside_18 rfl (lv_at hl 2 rfl) ?_
  obtain ⟨hi5, h⟩ := chk_e h
  refine va_ti (v := .int (vY x1)) hx hb hTy hG.2 (inb_vp hi5) rfl dX7_beside_19 ?_
  refine lv_iadd hx hb dX7_beside_20 ?_
  refine lv_topi (fun x6 ex6 => ?_)
  have h := mlet_n h ex6
  refine lv_istore_n (lv' := [(3, .int x6), (2, .int x4), (0, .int x0), (1, .int x1)]) hx hb dX7_beside_21 rfl hl (by decide) rfl (fun ls hl => ?_)
  refine lv_iload_n hx hb dX7_beside_22 rfl (lv_at hl 1 rfl) ?_
  refine lv_iload_n hx hb dX7_beside_23 rfl (lv_at hl 0 rfl) ?_
  obtain ⟨r8, hc7, h⟩ := cb1_e h
  refine k_i (r_runS F hG (c_X7_isCell l D ca g hc7) (kw725 F.kd) (kw726 F.kd) (kw7 F.kd) (kw727 F.kd) yd_X7_isCell ⟨Nat.le_of_ble_eq_true rfl, Nat.le_of_ble_eq_true rfl⟩ rfl hl.1 rfl (Nat.le_of_ble_eq_true rfl) dX7_beside_24 ⟨Nat.le_of_ble_eq_true rfl, Nat.le_of_ble_eq_true rfl⟩) hG (fun H locs hG => ?_)
  refine lv_if_eq (tgt := 39) hx hb dX7_beside_27 (by decide) (fun c9 => ?_) (fun c9 => ?_)
  · have h := ite_t h c9
    refine lv_iconst (v := (-1)) hx hb dX7_beside_39 (by decide) ?_
    obtain rfl := som1 h
    exact end_i F hr hlk hG dX7_beside_40
  · have h := ite_f h c9
    refine lv_bipush (v := 12) hx hb dX7_beside_30 (by decide) ?_
    refine lv_iload_n hx hb dX7_beside_32 rfl (lv_at hl 0 rfl) ?_
    refine lv_imul hx hb dX7_beside_33 ?_
    refine lv_iload_n hx hb dX7_beside_34 rfl (lv_at hl 1 rfl) ?_
    refine lv_iadd hx hb dX7_beside_35 ?_
    refine lv_goto (tgt := 40) hx hb dX7_beside_36 (by decide) ?_
    obtain rfl := som1 h
    exact end_i F hr hlk hG dX7_beside_40
set_option maxHeartbeats 4000000 in
set_option maxRecDepth 100000 in
theorem c_X6_copy (l : Launch) (D : va_G) (ca : vCA) (g : Nat → Nat) {fu : Nat} {M : Mem} {a0 : Nat} {a1 : Nat} {a2 : Nat} {M' : Mem} (ha0 : kd a0 = 6) (ha1 : kd a1 = 8) (ha2 : kd a2 = 8) (h : m_X6_copy fu M a0 a1 a2 = some M') : cM l yX6_copy cX6_copy 3 none { frames := 1, cells := 0, slots := 0, locals := 40 } D ca g M [.ref (g a0), .ref (g a1), .ref (g a2)] (fun sz => cQv D ca g sz M') := by
  refine mk_Met (by decide) (Nat.le_of_ble_eq_true rfl) ?_
  intro p e s m below meth c F hr hlk hnm hG ls hl
  have hx := F.1
  have hb := F.2.1
  replace hl : lv_has ls 3 [(0, .ref (g a0)), (1, .ref (g a1)), (2, .ref (g a2))] := hl
  unfold m_X6_copy at h
  refine lv_aload_n hx hb dX6_copy_0 rfl (lv_at hl 1 rfl) ?_
  refine lv_iconst (v := 0) hx hb dX6_copy_1 (by decide) ?_
  refine lv_aload_n hx hb dX6_copy_2 rfl (lv_at hl 2 rfl) ?_
  refine lv_iconst (v := 0) hx hb dX6_copy_3 (by decide) ?_
  refine lv_aload_n hx hb dX6_copy_4 rfl (lv_at hl 1 rfl) ?_
  refine r_alen F hG ha1 (v := (Int32.ofNat (alen a1))) rfl dX6_copy_5 ?_
  obtain ⟨hc4, h⟩ := chk_e h
  obtain ⟨M5, eM5, h⟩ := mlet_e h
  refine r_copy F hG ha1 ha2 hc4 eM5 hl.1 (kw865 F.kd) (kw560 F.kd) (kw559 F.kd) (kw18 F.kd) (Nat.le_of_ble_eq_true rfl) (Nat.le_of_ble_eq_true rfl) dX6_copy_6 (fun H locs hG => ?_)
  obtain rfl := som1 h
  exact end_v F hr hlk hG dX6_copy_9
set_option maxHeartbeats 4000000 in
set_option maxRecDepth 100000 in
theorem c_X6_become (l : Launch) (D : va_G) (ca : vCA) (g : Nat → Nat) {fu : Nat} {M : Mem} {a0 : Nat} {a1 : Nat} {M' : Mem} (ha0 : kd a0 = 6) (ha1 : kd a1 = 6) (h : m_X6_become fu M a0 a1 = some M') : cM l yX6_become cX6_become 2 none { frames := 2, cells := 0, slots := 0, locals := 62 } D ca g M [.ref (g a0), .ref (g a1)] (fun sz => cQv D ca g sz M') := by
  refine mk_Met (by decide) (Nat.le_of_ble_eq_true rfl) ?_
  intro p e s m below meth c F hr hlk hnm hG ls hl
  have hx := F.1
  have hb := F.2.1
  replace hl : lv_has ls 2 [(0, .ref (g a0)), (1, .ref (g a1))] := hl
  unfold m_X6_become at h
  refine lv_aload_n hx hb dX6_become_0 rfl (lv_at hl 0 rfl) ?_
  refine lv_aload_n hx hb dX6_become_1 rfl (lv_at hl 1 rfl) ?_
  refine xg6 F hG ha1 0 (by decide) (kw640 F.kd) (v := .int (M a1 0)) rfl dX6_become_2 ?_
  obtain ⟨M3, eM3, h⟩ := mlet_e h
  refine xp6 F hG ha0 eM3 rfl (by decide) (kw640 F.kd) rfl rfl rfl dX6_become_5 (fun H locs hG => ?_)
  refine lv_aload_n hx hb dX6_become_8 rfl (lv_at hl 0 rfl) ?_
  refine lv_aload_n hx hb dX6_become_9 rfl (lv_at hl 1 rfl) ?_
  have hk4 := kt_s1 ha1
  refine xg6 F hG ha1 1 (by decide) (kw642 F.kd) (v := .ref (g (a1 + 1))) rfl dX6_become_10 ?_
  refine lv_aload_n hx hb dX6_become_13 rfl (lv_at hl 0 rfl) ?_
  have hk5 := kt_s1 ha0
  refine xg6 F hG ha0 1 (by decide) (kw642 F.kd) (v := .ref (g (a0 + 1))) rfl dX6_become_14 ?_
  obtain ⟨M8, hc6, h⟩ := cb1_e h
  refine k_v (r_runV F hG (c_X6_copy l D ca g ha0 hk4 hk5 hc6) (kd_lt ha0 (by decide)) (gd6 ha0) rfl (kw901 F.kd) (kw903 F.kd) (ks_X6_copy F.kd) (kw8 F.kd) (kw904 F.kd) yd_X6_copy ⟨Nat.le_of_ble_eq_true rfl, Nat.le_of_ble_eq_true rfl⟩ rfl hl.1 rfl (Nat.le_of_ble_eq_true rfl) dX6_become_17 ⟨Nat.le_of_ble_eq_true rfl, Nat.le_of_ble_eq_true rfl⟩) hG (fun H locs hG => ?_)
  refine lv_aload_n hx hb dX6_become_20 rfl (lv_at hl 0 rfl) ?_
  refine lv_aload_n hx hb dX6_become_21 rfl (lv_at hl 1 rfl) ?_
  have hk9 := kt_s2 ha1
  refine xg6 F hG ha1 2 (by decide) (kw644 F.kd) (v := .ref (g (a1 + 2))) rfl dX6_become_22 ?_
  refine lv_aload_n hx hb dX6_become_25 rfl (lv_at hl 0 rfl) ?_
  have hk10 := kt_s2 ha0
  refine xg6 F hG ha0 2 (by decide) (kw644 F.kd) (v := .ref (g (a0 + 2))) rfl dX6_become_26 ?_
  obtain ⟨M13, hc11, h⟩ := cb1_e h
  refine k_v (r_runV F hG (c_X6_copy l D ca g ha0 hk9 hk10 hc11) (kd_lt ha0 (by decide)) (gd6 ha0) rfl (kw901 F.kd) (kw903 F.kd) (ks_X6_copy F.kd) (kw8 F.kd) (kw904 F.kd) yd_X6_copy ⟨Nat.le_of_ble_eq_true rfl, Nat.le_of_ble_eq_true rfl⟩ rfl hl.1 rfl (Nat.le_of_ble_eq_true rfl) dX6_become_29 ⟨Nat.le_of_ble_eq_true rfl, Nat.le_of_ble_eq_true rfl⟩) hG (fun H locs hG => ?_)
  refine lv_aload_n hx hb dX6_become_32 rfl (lv_at hl 0 rfl) ?_
  refine lv_aload_n hx hb dX6_become_33 rfl (lv_at hl 1 rfl) ?_
  have hk14 := kt_s3 ha1
  refine xg6 F hG ha1 3 (by decide) (kw646 F.kd) (v := .ref (g (a1 + 3))) rfl dX6_become_34 ?_
  refine lv_aload_n hx hb dX6_become_37 rfl (lv_at hl 0 rfl) ?_
  have hk15 := kt_s3 ha0
  refine xg6 F hG ha0 3 (by decide) (kw646 F.kd) (v := .ref (g (a0 + 3))) rfl dX6_become_38 ?_
  obtain ⟨M18, hc16, h⟩ := cb1_e h
  refine k_v (r_runV F hG (c_X6_copy l D ca g ha0 hk14 hk15 hc16) (kd_lt ha0 (by decide)) (gd6 ha0) rfl (kw901 F.kd) (kw903 F.kd) (ks_X6_copy F.kd) (kw8 F.kd) (kw904 F.kd) yd_X6_copy ⟨Nat.le_of_ble_eq_true rfl, Nat.le_of_ble_eq_true rfl⟩ rfl hl.1 rfl (Nat.le_of_ble_eq_true rfl) dX6_become_41 ⟨Nat.le_of_ble_eq_true rfl, Nat.le_of_ble_eq_true rfl⟩) hG (fun H locs hG => ?_)
  refine lv_aload_n hx hb dX6_become_44 rfl (lv_at hl 0 rfl) ?_
  refine lv_aload_n hx hb dX6_become_45 rfl (lv_at hl 1 rfl) ?_
  have hk19 := kt_s4 ha1
  refine xg6 F hG ha1 4 (by decide) (kw648 F.kd) (v := .ref (g (a1 + 4))) rfl dX6_become_46 ?_
  refine lv_aload_n hx hb dX6_become_49 rfl (lv_at hl 0 rfl) ?_
  have hk20 := kt_s4 ha0
  refine xg6 F hG ha0 4 (by decide) (kw648 F.kd) (v := .ref (g (a0 + 4))) rfl dX6_become_50 ?_
  obtain ⟨M23, hc21, h⟩ := cb1_e h
  refine k_v (r_runV F hG (c_X6_copy l D ca g ha0 hk19 hk20 hc21) (kd_lt ha0 (by decide)) (gd6 ha0) rfl (kw901 F.kd) (kw903 F.kd) (ks_X6_copy F.kd) (kw8 F.kd) (kw904 F.kd) yd_X6_copy ⟨Nat.le_of_ble_eq_true rfl, Nat.le_of_ble_eq_true rfl⟩ rfl hl.1 rfl (Nat.le_of_ble_eq_true rfl) dX6_become_53 ⟨Nat.le_of_ble_eq_true rfl, Nat.le_of_ble_eq_true rfl⟩) hG (fun H locs hG => ?_)
  refine lv_aload_n hx hb dX6_become_56 rfl (lv_at hl 0 rfl) ?_
  refine lv_aload_n hx hb dX6_become_57 rfl (lv_at hl 1 rfl) ?_
  have hk24 := kt_s5 ha1
  refine xg6 F hG ha1 5 (by decide) (kw650 F.kd) (v := .ref (g (a1 + 5))) rfl dX6_become_58 ?_
  refine lv_aload_n hx hb dX6_become_61 rfl (lv_at hl 0 rfl) ?_
  have hk25 := kt_s5 ha0
  refine xg6 F hG ha0 5 (by decide) (kw650 F.kd) (v := .ref (g (a0 + 5))) rfl dX6_become_62 ?_
  obtain ⟨M28, hc26, h⟩ := cb1_e h
  refine k_v (r_runV F hG (c_X6_copy l D ca g ha0 hk24 hk25 hc26) (kd_lt ha0 (by decide)) (gd6 ha0) rfl (kw901 F.kd) (kw903 F.kd) (ks_X6_copy F.kd) (kw8 F.kd) (kw904 F.kd) yd_X6_copy ⟨Nat.le_of_ble_eq_true rfl, Nat.le_of_ble_eq_true rfl⟩ rfl hl.1 rfl (Nat.le_of_ble_eq_true rfl) dX6_become_65 ⟨Nat.le_of_ble_eq_true rfl, Nat.le_of_ble_eq_true rfl⟩) hG (fun H locs hG => ?_)
  refine lv_aload_n hx hb dX6_become_68 rfl (lv_at hl 0 rfl) ?_
  refine lv_aload_n hx hb dX6_become_69 rfl (lv_at hl 1 rfl) ?_
  have hk29 := kt_s6 ha1
  refine xg6 F hG ha1 6 (by decide) (kw652 F.kd) (v := .ref (g (a1 + 6))) rfl dX6_become_70 ?_
  refine lv_aload_n hx hb dX6_become_73 rfl (lv_at hl 0 rfl) ?_
  have hk30 := kt_s6 ha0
  refine xg6 F hG ha0 6 (by decide) (kw652 F.kd) (v := .ref (g (a0 + 6))) rfl dX6_become_74 ?_
  obtain ⟨M33, hc31, h⟩ := cb1_e h
  refine k_v (r_runV F hG (c_X6_copy l D ca g ha0 hk29 hk30 hc31) (kd_lt ha0 (by decide)) (gd6 ha0) rfl (kw901 F.kd) (kw903 F.kd) (ks_X6_copy F.kd) (kw8 F.kd) (kw904 F.kd) yd_X6_copy ⟨Nat.le_of_ble_eq_true rfl, Nat.le_of_ble_eq_true rfl⟩ rfl hl.1 rfl (Nat.le_of_ble_eq_true rfl) dX6_become_77 ⟨Nat.le_of_ble_eq_true rfl, Nat.le_of_ble_eq_true rfl⟩) hG (fun H locs hG => ?_)
  refine lv_aload_n hx hb dX6_become_80 rfl (lv_at hl 0 rfl) ?_
  refine lv_aload_n hx hb dX6_become_81 rfl (lv_at hl 1 rfl) ?_
  have hk34 := kt_s7 ha1
  refine xg6 F hG ha1 7 (by decide) (kw654 F.kd) (v := .ref (g (a1 + 7))) rfl dX6_become_82 ?_
  refine lv_aload_n hx hb dX6_become_85 rfl (lv_at hl 0 rfl) ?_
  have hk35 := kt_s7 ha0
  refine xg6 F hG ha0 7 (by decide) (kw654 F.kd) (v := .ref (g (a0 + 7))) rfl dX6_become_86 ?_
  obtain ⟨M38, hc36, h⟩ := cb1_e h
  refine k_v (r_runV F hG (c_X6_copy l D ca g ha0 hk34 hk35 hc36) (kd_lt ha0 (by decide)) (gd6 ha0) rfl (kw901 F.kd) (kw903 F.kd) (ks_X6_copy F.kd) (kw8 F.kd) (kw904 F.kd) yd_X6_copy ⟨Nat.le_of_ble_eq_true rfl, Nat.le_of_ble_eq_true rfl⟩ rfl hl.1 rfl (Nat.le_of_ble_eq_true rfl) dX6_become_89 ⟨Nat.le_of_ble_eq_true rfl, Nat.le_of_ble_eq_true rfl⟩) hG (fun H locs hG => ?_)
  refine lv_aload_n hx hb dX6_become_92 rfl (lv_at hl 0 rfl) ?_
  refine lv_aload_n hx hb dX6_become_93 rfl (lv_at hl 1 rfl) ?_
  have hk39 := kt_s8 ha1
  refine xg6 F hG ha1 8 (by decide) (kw656 F.kd) (v := .ref (g (a1 + 8))) rfl dX6_become_94 ?_
  refine lv_aload_n hx hb dX6_become_97 rfl (lv_at hl 0 rfl) ?_
  have hk40 := kt_s8 ha0
  refine xg6 F hG ha0 8 (by decide) (kw656 F.kd) (v := .ref (g (a0 + 8))) rfl dX6_become_98 ?_
  obtain ⟨M43, hc41, h⟩ := cb1_e h
  refine k_v (r_runV F hG (c_X6_copy l D ca g ha0 hk39 hk40 hc41) (kd_lt ha0 (by decide)) (gd6 ha0) rfl (kw901 F.kd) (kw903 F.kd) (ks_X6_copy F.kd) (kw8 F.kd) (kw904 F.kd) yd_X6_copy ⟨Nat.le_of_ble_eq_true rfl, Nat.le_of_ble_eq_true rfl⟩ rfl hl.1 rfl (Nat.le_of_ble_eq_true rfl) dX6_become_101 ⟨Nat.le_of_ble_eq_true rfl, Nat.le_of_ble_eq_true rfl⟩) hG (fun H locs hG => ?_)
  refine lv_aload_n hx hb dX6_become_104 rfl (lv_at hl 0 rfl) ?_
  refine lv_aload_n hx hb dX6_become_105 rfl (lv_at hl 1 rfl) ?_
  have hk44 := kt_s9 ha1
  refine xg6 F hG ha1 9 (by decide) (kw658 F.kd) (v := .ref (g (a1 + 9))) rfl dX6_become_106 ?_
  refine lv_aload_n hx hb dX6_become_109 rfl (lv_at hl 0 rfl) ?_
  have hk45 := kt_s9 ha0
  refine xg6 F hG ha0 9 (by decide) (kw658 F.kd) (v := .ref (g (a0 + 9))) rfl dX6_become_110 ?_
  obtain ⟨M48, hc46, h⟩ := cb1_e h
  refine k_v (r_runV F hG (c_X6_copy l D ca g ha0 hk44 hk45 hc46) (kd_lt ha0 (by decide)) (gd6 ha0) rfl (kw901 F.kd) (kw903 F.kd) (ks_X6_copy F.kd) (kw8 F.kd) (kw904 F.kd) yd_X6_copy ⟨Nat.le_of_ble_eq_true rfl, Nat.le_of_ble_eq_true rfl⟩ rfl hl.1 rfl (Nat.le_of_ble_eq_true rfl) dX6_become_113 ⟨Nat.le_of_ble_eq_true rfl, Nat.le_of_ble_eq_true rfl⟩) hG (fun H locs hG => ?_)
  obtain rfl := som1 h
  exact end_v F hr hlk hG dX6_become_116
set_option maxHeartbeats 4000000 in
set_option maxRecDepth 100000 in
theorem m_X6_isBusy_L2_w {p : Program} {l : Launch} {e : Env} {s : State} {m : MethodId} {args : Array Value} {below : List Frame} {meth : Method} {c : Code} {Q : State → Prop} {D : va_G} {ca : vCA} {g : Nat → Nat} {fu : Nat} {M : Mem} {q0 : Nat} {y1 : Int32} {out : (Unit) ⊕ (Unit)} (F : FX p m c cX6_isBusy 3 s D ca g RX6) (hq0 : kd q0 = 6)
    (K0 : ∀  (H : Heap) (locs : List Loc) (ls : Array Slot), out = (Sum.inl ()) → GW D ca g s M H locs → lv_has ls 3 [(0, .ref (g q0)), (1, .int y1)] → W p l e ({ frames := 0, cells := 0, slots := 0, locals := 0 }) s m args below meth c H locs 0 0 Q (F0 m 40 ls []))
    (K1 : ∀  (H : Heap) (locs : List Loc) (ls : Array Slot), out = (Sum.inr ()) → GW D ca g s M H locs → lv_has ls 3 [] → W p l e ({ frames := 0, cells := 0, slots := 0, locals := 0 }) s m args below meth c H locs 0 0 Q (F0 m 32 ls [])) :
    ∀ (n : Nat) (z2 : Int32), m_X6_isBusy_L2 fu M q0 y1 n z2 = some out → ∀ (H : Heap) (locs : List Loc) (ls : Array Slot), GW D ca g s M H locs → lv_has ls 3 [(0, .ref (g q0)), (1, .int y1), (2, .int z2)] → W p l e ({ frames := 0, cells := 0, slots := 0, locals := 0 }) s m args below meth c H locs 0 0 Q (F0 m 2 ls []) := by
  have hx := F.1
  have hb := F.2.1
  intro n
  induction n with
  | zero =>
    intro z2 h
    exact absurd h (by simp [m_X6_isBusy_L2])
  | succ n ih =>
    intro z2 h H locs ls hG hl
    rw [m_X6_isBusy_L2] at h
    refine lv_iload_n hx hb dX6_isBusy_2 rfl (lv_at hl 2 rfl) ?_
    refine lv_aload_n hx hb dX6_isBusy_3 rfl (lv_at hl 0 rfl) ?_
    have hk3 := (show kd 44 = 7 from rfl)
    refine xg6 F hG hq0 10 (by decide) (kw660 F.kd) (v := .ref (g 44)) rfl dX6_isBusy_4 ?_
    refine xg7N F hG hk3 1 (by decide) (kw685 F.kd) (v := .int (M 44 1)) rfl dX6_isBusy_7 ?_
    refine lv_icmp_ge (tgt := 40) hx hb dX6_isBusy_10 (by decide) (fun c4 => ?_) (fun c4 => ?_)
    · have h := ite_t h c4
      exact K0 _ _ _ (som1 h).symm hG (lv_sub hl [0, 1] rfl)
    · have h := ite_f h c4
      refine lv_aload_n hx hb dX6_isBusy_13 rfl (lv_at hl 0 rfl) ?_
      have hk5 := kt_s3 hq0
      refine xg6 F hG hq0 3 (by decide) (kw646 F.kd) (v := .ref (g (q0 + 3))) rfl dX6_isBusy_14 ?_
      refine lv_iload_n hx hb dX6_isBusy_17 rfl (lv_at hl 2 rfl) ?_
      obtain ⟨hi6, h⟩ := chk_e h
      refine r_ald F hG hk5 hi6 dX6_isBusy_18 ?_
      refine lv_if_le (tgt := 34) hx hb dX6_isBusy_19 (by decide) (fun c7 => ?_) (fun c7 => ?_)
      · have h := ite_t h c7
        obtain ⟨x8, ex8, h⟩ := mlet_e h
        refine lv_iinc (v := x8) (lv' := [(2, .int x8), (0, .ref (g q0)), (1, .int y1)]) hx hb dX6_isBusy_34 hl (k := 2) rfl (by rw [ex8]; rfl) (by decide) rfl (fun ls hl => ?_)
        refine lv_goto (tgt := 2) hx hb dX6_isBusy_37 (by decide) ?_
        exact ih x8 h _ _ _ hG (lv_sub hl [1, 2, 0] rfl)
      · have h := ite_f h c7
        refine lv_aload_n hx hb dX6_isBusy_22 rfl (lv_at hl 0 rfl) ?_
        have hk9 := kt_s2 hq0
        refine xg6 F hG hq0 2 (by decide) (kw644 F.kd) (v := .ref (g (q0 + 2))) rfl dX6_isBusy_23 ?_
        refine lv_iload_n hx hb dX6_isBusy_26 rfl (lv_at hl 2 rfl) ?_
        obtain ⟨hi10, h⟩ := chk_e h
        refine r_ald F hG hk9 hi10 dX6_isBusy_27 ?_
        refine lv_iload_n hx hb dX6_isBusy_28 rfl (lv_at hl 1 rfl) ?_
        refine lv_icmp_ne (tgt := 34) hx hb dX6_isBusy_29 (by decide) (fun c11 => ?_) (fun c11 => ?_)
        · have h := ite_f h c11
          obtain ⟨x12, ex12, h⟩ := mlet_e h
          refine lv_iinc (v := x12) (lv' := [(2, .int x12), (0, .ref (g q0)), (1, .int y1)]) hx hb dX6_isBusy_34 hl (k := 2) rfl (by rw [ex12]; rfl) (by decide) rfl (fun ls hl => ?_)
          refine lv_goto (tgt := 2) hx hb dX6_isBusy_37 (by decide) ?_
          exact ih x12 h _ _ _ hG (lv_sub hl [1, 2, 0] rfl)
        · have h := ite_t h c11
          exact K1 _ _ _ (som1 h).symm hG (lv_sub hl [] rfl)
set_option maxHeartbeats 4000000 in
set_option maxRecDepth 100000 in
theorem m_X6_isBusy_L42_w {p : Program} {l : Launch} {e : Env} {s : State} {m : MethodId} {args : Array Value} {below : List Frame} {meth : Method} {c : Code} {Q : State → Prop} {D : va_G} {ca : vCA} {g : Nat → Nat} {fu : Nat} {M : Mem} {q0 : Nat} {y1 : Int32} {out : (Unit) ⊕ (Unit)} (F : FX p m c cX6_isBusy 3 s D ca g RX6) (hq0 : kd q0 = 6)
    (K0 : ∀  (H : Heap) (locs : List Loc) (ls : Array Slot), out = (Sum.inl ()) → GW D ca g s M H locs → lv_has ls 3 [] → W p l e ({ frames := 0, cells := 0, slots := 0, locals := 0 }) s m args below meth c H locs 0 0 Q (F0 m 71 ls []))
    (K1 : ∀  (H : Heap) (locs : List Loc) (ls : Array Slot), out = (Sum.inr ()) → GW D ca g s M H locs → lv_has ls 3 [] → W p l e ({ frames := 0, cells := 0, slots := 0, locals := 0 }) s m args below meth c H locs 0 0 Q (F0 m 63 ls [])) :
    ∀ (n : Nat) (z2 : Int32), m_X6_isBusy_L42 fu M q0 y1 n z2 = some out → ∀ (H : Heap) (locs : List Loc) (ls : Array Slot), GW D ca g s M H locs → lv_has ls 3 [(0, .ref (g q0)), (1, .int y1), (2, .int z2)] → W p l e ({ frames := 0, cells := 0, slots := 0, locals := 0 }) s m args below meth c H locs 0 0 Q (F0 m 42 ls []) := by
  have hx := F.1
  have hb := F.2.1
  intro n
  induction n with
  | zero =>
    intro z2 h
    exact absurd h (by simp [m_X6_isBusy_L42])
  | succ n ih =>
    intro z2 h H locs ls hG hl
    rw [m_X6_isBusy_L42] at h
    refine lv_iload_n hx hb dX6_isBusy_42 rfl (lv_at hl 2 rfl) ?_
    refine lv_aload_n hx hb dX6_isBusy_43 rfl (lv_at hl 0 rfl) ?_
    have hk15 := (show kd 44 = 7 from rfl)
    refine xg6 F hG hq0 10 (by decide) (kw660 F.kd) (v := .ref (g 44)) rfl dX6_isBusy_44 ?_
    refine xg7N F hG hk15 2 (by decide) (kw687 F.kd) (v := .int (M 44 2)) rfl dX6_isBusy_47 ?_
    refine lv_icmp_ge (tgt := 71) hx hb dX6_isBusy_50 (by decide) (fun c16 => ?_) (fun c16 => ?_)
    · have h := ite_t h c16
      exact K0 _ _ _ (som1 h).symm hG (lv_sub hl [] rfl)
    · have h := ite_f h c16
      refine lv_aload_n hx hb dX6_isBusy_53 rfl (lv_at hl 0 rfl) ?_
      have hk17 := kt_s8 hq0
      refine xg6 F hG hq0 8 (by decide) (kw656 F.kd) (v := .ref (g (q0 + 8))) rfl dX6_isBusy_54 ?_
      refine lv_iload_n hx hb dX6_isBusy_57 rfl (lv_at hl 2 rfl) ?_
      obtain ⟨hi18, h⟩ := chk_e h
      refine r_ald F hG hk17 hi18 dX6_isBusy_58 ?_
      refine lv_iload_n hx hb dX6_isBusy_59 rfl (lv_at hl 1 rfl) ?_
      refine lv_icmp_ne (tgt := 65) hx hb dX6_isBusy_60 (by decide) (fun c19 => ?_) (fun c19 => ?_)
      · have h := ite_f h c19
        obtain ⟨x20, ex20, h⟩ := mlet_e h
        refine lv_iinc (v := x20) (lv' := [(2, .int x20), (0, .ref (g q0)), (1, .int y1)]) hx hb dX6_isBusy_65 hl (k := 2) rfl (by rw [ex20]; rfl) (by decide) rfl (fun ls hl => ?_)
        refine lv_goto (tgt := 42) hx hb dX6_isBusy_68 (by decide) ?_
        exact ih x20 h _ _ _ hG (lv_sub hl [1, 2, 0] rfl)
      · have h := ite_t h c19
        exact K1 _ _ _ (som1 h).symm hG (lv_sub hl [] rfl)
set_option maxHeartbeats 4000000 in
set_option maxRecDepth 100000 in
theorem c_X6_isBusy (l : Launch) (D : va_G) (ca : vCA) (g : Nat → Nat) {fu : Nat} {M : Mem} {a0 : Nat} {x1 : Int32} {r : Int32} (ha0 : kd a0 = 6) (h : m_X6_isBusy fu M a0 x1 = some r) : cM l yX6_isBusy cX6_isBusy 3 (some .boolean) { frames := 0, cells := 0, slots := 0, locals := 0 } D ca g M [.ref (g a0), .int x1] (fun sz => cQi D ca g sz M r) := by
  refine mk_Met (by decide) (Nat.le_of_ble_eq_true rfl) ?_
  intro p e s m below meth c F hr hlk hnm hG ls hl
  have hx := F.1
  have hb := F.2.1
  replace hl : lv_has ls 3 [(0, .ref (g a0)), (1, .int x1)] := hl
  unfold m_X6_isBusy at h
  refine lv_iconst (v := 0) hx hb dX6_isBusy_0 (by decide) ?_
  refine lv_istore_n (lv' := [(2, .int 0), (0, .ref (g a0)), (1, .int x1)]) hx hb dX6_isBusy_1 rfl hl (by decide) rfl (fun ls hl => ?_)
  obtain ⟨o13, ho14, h⟩ := cb1_e h
  refine m_X6_isBusy_L2_w (out := o13) F ha0 ?_ ?_ _ _ ho14 _ _ _ hG (lv_sub hl [1, 2, 0] rfl)
  · intro H locs ls eo hG hl
    subst o13
    have h := se_l h
    refine lv_iconst (v := 0) hx hb dX6_isBusy_40 (by decide) ?_
    refine lv_istore_n (lv' := [(2, .int 0), (0, .ref (g a0)), (1, .int x1)]) hx hb dX6_isBusy_41 rfl hl (by decide) rfl (fun ls hl => ?_)
    obtain ⟨o21, ho22, h⟩ := cb1_e h
    refine m_X6_isBusy_L42_w (out := o21) F ha0 ?_ ?_ _ _ ho22 _ _ _ hG (lv_sub hl [1, 2, 0] rfl)
    · intro H locs ls eo hG hl
      subst o21
      have h := se_l h
      refine lv_iconst (v := 0) hx hb dX6_isBusy_71 (by decide) ?_
      obtain rfl := som1 h
      exact end_z F hr hlk (by decide) hG dX6_isBusy_72
    · intro H locs ls eo hG hl
      subst o21
      have h := se_r h
      refine lv_iconst (v := 1) hx hb dX6_isBusy_63 (by decide) ?_
      obtain rfl := som1 h
      exact end_z F hr hlk (by decide) hG dX6_isBusy_64
  · intro H locs ls eo hG hl
    subst o13
    have h := se_r h
    refine lv_iconst (v := 1) hx hb dX6_isBusy_32 (by decide) ?_
    obtain rfl := som1 h
    exact end_z F hr hlk (by decide) hG dX6_isBusy_33
set_option maxHeartbeats 4000000 in
set_option maxRecDepth 100000 in
theorem c_X6_isLane (l : Launch) (D : va_G) (ca : vCA) (g : Nat → Nat) {fu : Nat} {M : Mem} {a0 : Nat} {x1 : Int32} {r : Int32} (ha0 : kd a0 = 6) (h : m_X6_isLane fu M a0 x1 = some r) : cM l yX6_isLane cX6_isLane 2 (some .boolean) { frames := 0, cells := 0, slots := 0, locals := 0 } D ca g M [.ref (g a0), .int x1] (fun sz => cQi D ca g sz M r) := by
  refine mk_Met (by decide) (Nat.le_of_ble_eq_true rfl) ?_
  intro p e s m below meth c F hr hlk hnm hG ls hl
  have hx := F.1
  have hb := F.2.1
  replace hl : lv_has ls 2 [(0, .ref (g a0)), (1, .int x1)] := hl
  unfold m_X6_isLane at h
  refine lv_iload_n hx hb dX6_isLane_0 rfl (lv_at hl 1 rfl) ?_
  refine lv_iconst (v := (-1)) hx hb dX6_isLane_1 (by decide) ?_
  refine lv_icmp_eq (tgt := 19) hx hb dX6_isLane_2 (by decide) (fun c3 => ?_) (fun c3 => ?_)
  · have h := ite_t h c3
    refine lv_iconst (v := 0) hx hb dX6_isLane_19 (by decide) ?_
    obtain rfl := som1 h
    exact end_z F hr hlk (by decide) hG dX6_isLane_20
  · have h := ite_f h c3
    refine lv_aload_n hx hb dX6_isLane_5 rfl (lv_at hl 0 rfl) ?_
    have hk4 := kt_s1 ha0
    refine xg6 F hG ha0 1 (by decide) (kw642 F.kd) (v := .ref (g (a0 + 1))) rfl dX6_isLane_6 ?_
    refine lv_iload_n hx hb dX6_isLane_9 rfl (lv_at hl 1 rfl) ?_
    obtain ⟨hi5, h⟩ := chk_e h
    refine r_ald F hG hk4 hi5 dX6_isLane_10 ?_
    refine lv_iconst (v := (-1)) hx hb dX6_isLane_11 (by decide) ?_
    refine lv_icmp_eq (tgt := 19) hx hb dX6_isLane_12 (by decide) (fun c6 => ?_) (fun c6 => ?_)
    · have h := ite_t h c6
      refine lv_iconst (v := 0) hx hb dX6_isLane_19 (by decide) ?_
      obtain rfl := som1 h
      exact end_z F hr hlk (by decide) hG dX6_isLane_20
    · have h := ite_f h c6
      refine lv_iconst (v := 1) hx hb dX6_isLane_15 (by decide) ?_
      refine lv_goto (tgt := 20) hx hb dX6_isLane_16 (by decide) ?_
      obtain rfl := som1 h
      exact end_z F hr hlk (by decide) hG dX6_isLane_20
set_option maxHeartbeats 4000000 in
set_option maxRecDepth 100000 in
theorem c_X6_goes (l : Launch) (D : va_G) (ca : vCA) (g : Nat → Nat) {fu : Nat} {M : Mem} {a0 : Nat} {x1 : Int32} {x2 : Int32} {x3 : Int32} {M' : Mem} {r : Int32} (ha0 : kd a0 = 6) (h : m_X6_goes fu M a0 x1 x2 x3 = some (M', r)) : cM l yX6_goes cX6_goes 5 (some .boolean) { frames := 1, cells := 0, slots := 0, locals := 22 } D ca g M [.ref (g a0), .int x1, .int x2, .int x3] (fun sz => cQi D ca g sz M' r) := by
  refine mk_Met (by decide) (Nat.le_of_ble_eq_true rfl) ?_
  intro p e s m below meth c F hr hlk hnm hG ls hl
  have hx := F.1
  have hb := F.2.1
  replace hl : lv_has ls 5 [(0, .ref (g a0)), (1, .int x1), (2, .int x2), (3, .int x3)] := hl
  unfold m_X6_goes at h
  refine lv_aload_n hx hb dX6_goes_0 rfl (lv_at hl 0 rfl) ?_
  refine lv_iload_n hx hb dX6_goes_1 rfl (lv_at hl 2 rfl) ?_
  obtain ⟨r6, hc5, h⟩ := cb1_e h
  refine k_i (r_runV F hG (c_X6_isLane l D ca g ha0 hc5) (kd_lt ha0 (by decide)) (gd6 ha0) rfl (kw875 F.kd) (kw877 F.kd) (ks_X6_isLane F.kd) (kw8 F.kd) (kw878 F.kd) yd_X6_isLane ⟨Nat.le_of_ble_eq_true rfl, Nat.le_of_ble_eq_true rfl⟩ rfl hl.1 rfl (Nat.le_of_ble_eq_true rfl) dX6_goes_2 ⟨Nat.le_of_ble_eq_true rfl, Nat.le_of_ble_eq_true rfl⟩) hG (fun H locs hG => ?_)
  refine lv_if_ne (tgt := 10) hx hb dX6_goes_5 (by decide) (fun c7 => ?_) (fun c7 => ?_)
  · have h := ite_f h c7
    refine lv_aload_n hx hb dX6_goes_10 rfl (lv_at hl 0 rfl) ?_
    have hk8 := kt_s1 ha0
    refine xg6 F hG ha0 1 (by decide) (kw642 F.kd) (v := .ref (g (a0 + 1))) rfl dX6_goes_11 ?_
    refine lv_iload_n hx hb dX6_goes_14 rfl (lv_at hl 2 rfl) ?_
    obtain ⟨hi9, h⟩ := chk_e h
    refine r_ald F hG hk8 hi9 dX6_goes_15 ?_
    refine lv_topi (fun x10 ex10 => ?_)
    have h := mlet_n h ex10
    refine lv_istore (lv' := [(4, .int x10), (0, .ref (g a0)), (1, .int x1), (2, .int x2), (3, .int x3)]) hx hb dX6_goes_16 hl (by decide) rfl (fun ls hl => ?_)
    refine lv_iload hx hb dX6_goes_18 (lv_at hl 0 rfl) ?_
    refine lv_if_le (tgt := 85) hx hb dX6_goes_20 (by decide) (fun c11 => ?_) (fun c11 => ?_)
    · have h := ite_t h c11
      refine lv_aload_n hx hb dX6_goes_85 rfl (lv_at hl 1 rfl) ?_
      have hk12 := kt_s2 ha0
      refine xg6 F hG ha0 2 (by decide) (kw644 F.kd) (v := .ref (g (a0 + 2))) rfl dX6_goes_86 ?_
      refine lv_iload_n hx hb dX6_goes_89 rfl (lv_at hl 2 rfl) ?_
      refine lv_iload_n hx hb dX6_goes_90 rfl (lv_at hl 3 rfl) ?_
      obtain ⟨hi13, h⟩ := chk_e h
      obtain ⟨M14, eM14, h⟩ := mlet_e h
      refine r_ast F hG hk12 hi13 eM14 dX6_goes_91 (fun H locs hG => ?_)
      refine lv_iconst (v := 1) hx hb dX6_goes_92 (by decide) ?_
      obtain ⟨rfl, rfl⟩ := som2 h
      exact end_z F hr hlk (by decide) hG dX6_goes_93
    · have h := ite_f h c11
      refine lv_aload_n hx hb dX6_goes_23 rfl (lv_at hl 1 rfl) ?_
      have hk15 := kt_s3 ha0
      refine xg6 F hG ha0 3 (by decide) (kw646 F.kd) (v := .ref (g (a0 + 3))) rfl dX6_goes_24 ?_
      refine lv_iload_n hx hb dX6_goes_27 rfl (lv_at hl 2 rfl) ?_
      obtain ⟨hi16, h⟩ := chk_e h
      refine r_ald F hG hk15 hi16 dX6_goes_28 ?_
      refine lv_iconst (v := 2) hx hb dX6_goes_29 (by decide) ?_
      refine lv_iload hx hb dX6_goes_30 (lv_at hl 0 rfl) ?_
      refine lv_imul hx hb dX6_goes_32 ?_
      refine lv_icmp_lt (tgt := 65) hx hb dX6_goes_33 (by decide) (fun c17 => ?_) (fun c17 => ?_)
      · have h := ite_t h c17
        refine lv_iconst (v := 0) hx hb dX6_goes_65 (by decide) ?_
        obtain ⟨rfl, rfl⟩ := som2 h
        exact end_z F hr hlk (by decide) hG dX6_goes_66
      · have h := ite_f h c17
        refine lv_aload_n hx hb dX6_goes_36 rfl (lv_at hl 1 rfl) ?_
        refine lv_iload_n hx hb dX6_goes_37 rfl (lv_at hl 4 rfl) ?_
        obtain ⟨r19, hc18, h⟩ := cb1_e h
        refine k_i (r_runV F hG (c_X6_isLane l D ca g ha0 hc18) (kd_lt ha0 (by decide)) (gd6 ha0) rfl (kw875 F.kd) (kw877 F.kd) (ks_X6_isLane F.kd) (kw8 F.kd) (kw878 F.kd) yd_X6_isLane ⟨Nat.le_of_ble_eq_true rfl, Nat.le_of_ble_eq_true rfl⟩ rfl hl.1 rfl (Nat.le_of_ble_eq_true rfl) dX6_goes_38 ⟨Nat.le_of_ble_eq_true rfl, Nat.le_of_ble_eq_true rfl⟩) hG (fun H locs hG => ?_)
        refine lv_if_eq (tgt := 65) hx hb dX6_goes_41 (by decide) (fun c20 => ?_) (fun c20 => ?_)
        · have h := ite_t h c20
          refine lv_iconst (v := 0) hx hb dX6_goes_65 (by decide) ?_
          obtain ⟨rfl, rfl⟩ := som2 h
          exact end_z F hr hlk (by decide) hG dX6_goes_66
        · have h := ite_f h c20
          refine lv_aload_n hx hb dX6_goes_44 rfl (lv_at hl 1 rfl) ?_
          have hk21 := kt_s1 ha0
          refine xg6 F hG ha0 1 (by decide) (kw642 F.kd) (v := .ref (g (a0 + 1))) rfl dX6_goes_45 ?_
          refine lv_iload_n hx hb dX6_goes_48 rfl (lv_at hl 4 rfl) ?_
          obtain ⟨hi22, h⟩ := chk_e h
          refine r_ald F hG hk21 hi22 dX6_goes_49 ?_
          refine lv_iconst (v := 3) hx hb dX6_goes_50 (by decide) ?_
          refine lv_iload hx hb dX6_goes_51 (lv_at hl 0 rfl) ?_
          refine lv_isub hx hb dX6_goes_53 ?_
          refine lv_icmp_gt (tgt := 65) hx hb dX6_goes_54 (by decide) (fun c23 => ?_) (fun c23 => ?_)
          · have h := ite_t h c23
            refine lv_iconst (v := 0) hx hb dX6_goes_65 (by decide) ?_
            obtain ⟨rfl, rfl⟩ := som2 h
            exact end_z F hr hlk (by decide) hG dX6_goes_66
          · have h := ite_f h c23
            refine lv_aload_n hx hb dX6_goes_57 rfl (lv_at hl 1 rfl) ?_
            refine lv_iload_n hx hb dX6_goes_58 rfl (lv_at hl 4 rfl) ?_
            obtain ⟨r25, hc24, h⟩ := cb1_e h
            refine k_i (r_runV F hG (c_X6_isBusy l D ca g ha0 hc24) (kd_lt ha0 (by decide)) (gd6 ha0) rfl (kw883 F.kd) (kw736 F.kd) (kw737 F.kd) (kw8 F.kd) (kw738 F.kd) yd_X6_isBusy ⟨Nat.le_of_ble_eq_true rfl, Nat.le_of_ble_eq_true rfl⟩ rfl hl.1 rfl (Nat.le_of_ble_eq_true rfl) dX6_goes_59 ⟨Nat.le_of_ble_eq_true rfl, Nat.le_of_ble_eq_true rfl⟩) hG (fun H locs hG => ?_)
            refine lv_if_eq (tgt := 67) hx hb dX6_goes_62 (by decide) (fun c26 => ?_) (fun c26 => ?_)
            · have h := ite_t h c26
              refine lv_aload_n hx hb dX6_goes_67 rfl (lv_at hl 1 rfl) ?_
              have hk27 := kt_s1 ha0
              refine xg6 F hG ha0 1 (by decide) (kw642 F.kd) (v := .ref (g (a0 + 1))) rfl dX6_goes_68 ?_
              refine lv_iload_n hx hb dX6_goes_71 rfl (lv_at hl 4 rfl) ?_
              refine lv_dup2_11 hx hb dX6_goes_72 rfl rfl ?_
              obtain ⟨hi28, h⟩ := chk_e h
              refine r_ald F hG hk27 hi28 dX6_goes_73 ?_
              refine lv_iload hx hb dX6_goes_74 (lv_at hl 0 rfl) ?_
              refine lv_iadd hx hb dX6_goes_76 ?_
              obtain ⟨hi29, h⟩ := chk_e h
              obtain ⟨M30, eM30, h⟩ := mlet_e h
              refine r_ast F hG hk27 hi29 eM30 dX6_goes_77 (fun H locs hG => ?_)
              refine lv_aload_n hx hb dX6_goes_78 rfl (lv_at hl 1 rfl) ?_
              have hk31 := kt_s1 ha0
              refine xg6 F hG ha0 1 (by decide) (kw642 F.kd) (v := .ref (g (a0 + 1))) rfl dX6_goes_79 ?_
              refine lv_iload_n hx hb dX6_goes_82 rfl (lv_at hl 3 rfl) ?_
              refine lv_iconst (v := 0) hx hb dX6_goes_83 (by decide) ?_
              obtain ⟨hi32, h⟩ := chk_e h
              obtain ⟨M33, eM33, h⟩ := mlet_e h
              refine r_ast F hG hk31 hi32 eM33 dX6_goes_84 (fun H locs hG => ?_)
              refine lv_aload_n hx hb dX6_goes_85 rfl (lv_at hl 1 rfl) ?_
              have hk34 := kt_s2 ha0
              refine xg6 F hG ha0 2 (by decide) (kw644 F.kd) (v := .ref (g (a0 + 2))) rfl dX6_goes_86 ?_
              refine lv_iload_n hx hb dX6_goes_89 rfl (lv_at hl 2 rfl) ?_
              refine lv_iload_n hx hb dX6_goes_90 rfl (lv_at hl 3 rfl) ?_
              obtain ⟨hi35, h⟩ := chk_e h
              obtain ⟨M36, eM36, h⟩ := mlet_e h
              refine r_ast F hG hk34 hi35 eM36 dX6_goes_91 (fun H locs hG => ?_)
              refine lv_iconst (v := 1) hx hb dX6_goes_92 (by decide) ?_
              obtain ⟨rfl, rfl⟩ := som2 h
              exact end_z F hr hlk (by decide) hG dX6_goes_93
            · have h := ite_f h c26
              refine lv_iconst (v := 0) hx hb dX6_goes_65 (by decide) ?_
              obtain ⟨rfl, rfl⟩ := som2 h
              exact end_z F hr hlk (by decide) hG dX6_goes_66
  · have h := ite_t h c7
    refine lv_iconst (v := 0) hx hb dX6_goes_8 (by decide) ?_
    obtain ⟨rfl, rfl⟩ := som2 h
    exact end_z F hr hlk (by decide) hG dX6_goes_9
set_option maxHeartbeats 4000000 in
set_option maxRecDepth 100000 in
theorem c_X6_raises (l : Launch) (D : va_G) (ca : vCA) (g : Nat → Nat) {fu : Nat} {M : Mem} {a0 : Nat} {x1 : Int32} {x2 : Int32} {M' : Mem} {r : Int32} (ha0 : kd a0 = 6) (h : m_X6_raises fu M a0 x1 x2 = some (M', r)) : cM l yX6_raises cX6_raises 3 (some .boolean) { frames := 1, cells := 0, slots := 0, locals := 22 } D ca g M [.ref (g a0), .int x1, .int x2] (fun sz => cQi D ca g sz M' r) := by
  refine mk_Met (by decide) (Nat.le_of_ble_eq_true rfl) ?_
  intro p e s m below meth c F hr hlk hnm hG ls hl
  have hx := F.1
  have hb := F.2.1
  replace hl : lv_has ls 3 [(0, .ref (g a0)), (1, .int x1), (2, .int x2)] := hl
  unfold m_X6_raises at h
  refine lv_aload_n hx hb dX6_raises_0 rfl (lv_at hl 0 rfl) ?_
  have hk4 := kt_s3 ha0
  refine xg6 F hG ha0 3 (by decide) (kw646 F.kd) (v := .ref (g (a0 + 3))) rfl dX6_raises_1 ?_
  refine lv_iload_n hx hb dX6_raises_4 rfl (lv_at hl 1 rfl) ?_
  obtain ⟨hi5, h⟩ := chk_e h
  refine r_ald F hG hk4 hi5 dX6_raises_5 ?_
  refine lv_iconst (v := 3) hx hb dX6_raises_6 (by decide) ?_
  refine lv_icmp_lt (tgt := 36) hx hb dX6_raises_7 (by decide) (fun c6 => ?_) (fun c6 => ?_)
  · have h := ite_t h c6
    refine lv_iconst (v := 0) hx hb dX6_raises_36 (by decide) ?_
    obtain ⟨rfl, rfl⟩ := som2 h
    exact end_z F hr hlk (by decide) hG dX6_raises_37
  · have h := ite_f h c6
    refine lv_aload_n hx hb dX6_raises_10 rfl (lv_at hl 0 rfl) ?_
    refine lv_iload_n hx hb dX6_raises_11 rfl (lv_at hl 2 rfl) ?_
    obtain ⟨r8, hc7, h⟩ := cb1_e h
    refine k_i (r_runV F hG (c_X6_isLane l D ca g ha0 hc7) (kd_lt ha0 (by decide)) (gd6 ha0) rfl (kw875 F.kd) (kw877 F.kd) (ks_X6_isLane F.kd) (kw8 F.kd) (kw878 F.kd) yd_X6_isLane ⟨Nat.le_of_ble_eq_true rfl, Nat.le_of_ble_eq_true rfl⟩ rfl hl.1 rfl (Nat.le_of_ble_eq_true rfl) dX6_raises_12 ⟨Nat.le_of_ble_eq_true rfl, Nat.le_of_ble_eq_true rfl⟩) hG (fun H locs hG => ?_)
    refine lv_if_eq (tgt := 36) hx hb dX6_raises_15 (by decide) (fun c9 => ?_) (fun c9 => ?_)
    · have h := ite_t h c9
      refine lv_iconst (v := 0) hx hb dX6_raises_36 (by decide) ?_
      obtain ⟨rfl, rfl⟩ := som2 h
      exact end_z F hr hlk (by decide) hG dX6_raises_37
    · have h := ite_f h c9
      refine lv_aload_n hx hb dX6_raises_18 rfl (lv_at hl 0 rfl) ?_
      have hk10 := kt_s1 ha0
      refine xg6 F hG ha0 1 (by decide) (kw642 F.kd) (v := .ref (g (a0 + 1))) rfl dX6_raises_19 ?_
      refine lv_iload_n hx hb dX6_raises_22 rfl (lv_at hl 2 rfl) ?_
      obtain ⟨hi11, h⟩ := chk_e h
      refine r_ald F hG hk10 hi11 dX6_raises_23 ?_
      refine lv_iconst (v := 3) hx hb dX6_raises_24 (by decide) ?_
      refine lv_icmp_eq (tgt := 36) hx hb dX6_raises_25 (by decide) (fun c12 => ?_) (fun c12 => ?_)
      · have h := ite_t h c12
        refine lv_iconst (v := 0) hx hb dX6_raises_36 (by decide) ?_
        obtain ⟨rfl, rfl⟩ := som2 h
        exact end_z F hr hlk (by decide) hG dX6_raises_37
      · have h := ite_f h c12
        refine lv_aload_n hx hb dX6_raises_28 rfl (lv_at hl 0 rfl) ?_
        refine lv_iload_n hx hb dX6_raises_29 rfl (lv_at hl 2 rfl) ?_
        obtain ⟨r14, hc13, h⟩ := cb1_e h
        refine k_i (r_runV F hG (c_X6_isBusy l D ca g ha0 hc13) (kd_lt ha0 (by decide)) (gd6 ha0) rfl (kw883 F.kd) (kw736 F.kd) (kw737 F.kd) (kw8 F.kd) (kw738 F.kd) yd_X6_isBusy ⟨Nat.le_of_ble_eq_true rfl, Nat.le_of_ble_eq_true rfl⟩ rfl hl.1 rfl (Nat.le_of_ble_eq_true rfl) dX6_raises_30 ⟨Nat.le_of_ble_eq_true rfl, Nat.le_of_ble_eq_true rfl⟩) hG (fun H locs hG => ?_)
        refine lv_if_eq (tgt := 38) hx hb dX6_raises_33 (by decide) (fun c15 => ?_) (fun c15 => ?_)
        · have h := ite_t h c15
          refine lv_aload_n hx hb dX6_raises_38 rfl (lv_at hl 0 rfl) ?_
          have hk16 := kt_s1 ha0
          refine xg6 F hG ha0 1 (by decide) (kw642 F.kd) (v := .ref (g (a0 + 1))) rfl dX6_raises_39 ?_
          refine lv_iload_n hx hb dX6_raises_42 rfl (lv_at hl 2 rfl) ?_
          refine lv_dup2_11 hx hb dX6_raises_43 rfl rfl ?_
          obtain ⟨hi17, h⟩ := chk_e h
          refine r_ald F hG hk16 hi17 dX6_raises_44 ?_
          refine lv_iconst (v := 1) hx hb dX6_raises_45 (by decide) ?_
          refine lv_iadd hx hb dX6_raises_46 ?_
          obtain ⟨hi18, h⟩ := chk_e h
          obtain ⟨M19, eM19, h⟩ := mlet_e h
          refine r_ast F hG hk16 hi18 eM19 dX6_raises_47 (fun H locs hG => ?_)
          refine lv_iconst (v := 1) hx hb dX6_raises_48 (by decide) ?_
          obtain ⟨rfl, rfl⟩ := som2 h
          exact end_z F hr hlk (by decide) hG dX6_raises_49
        · have h := ite_f h c15
          refine lv_iconst (v := 0) hx hb dX6_raises_36 (by decide) ?_
          obtain ⟨rfl, rfl⟩ := som2 h
          exact end_z F hr hlk (by decide) hG dX6_raises_37
set_option maxHeartbeats 4000000 in
set_option maxRecDepth 100000 in
theorem c_X6_pulls (l : Launch) (D : va_G) (ca : vCA) (g : Nat → Nat) {fu : Nat} {M : Mem} {a0 : Nat} {x1 : Int32} {M' : Mem} {r : Int32} (ha0 : kd a0 = 6) (h : m_X6_pulls fu M a0 x1 = some (M', r)) : cM l yX6_pulls cX6_pulls 2 (some .boolean) { frames := 1, cells := 0, slots := 0, locals := 21 } D ca g M [.ref (g a0), .int x1] (fun sz => cQi D ca g sz M' r) := by
  refine mk_Met (by decide) (Nat.le_of_ble_eq_true rfl) ?_
  intro p e s m below meth c F hr hlk hnm hG ls hl
  have hx := F.1
  have hb := F.2.1
  replace hl : lv_has ls 2 [(0, .ref (g a0)), (1, .int x1)] := hl
  unfold m_X6_pulls at h
  refine lv_aload_n hx hb dX6_pulls_0 rfl (lv_at hl 0 rfl) ?_
  refine lv_iload_n hx hb dX6_pulls_1 rfl (lv_at hl 1 rfl) ?_
  obtain ⟨r4, hc3, h⟩ := cb1_e h
  refine k_i (r_runV F hG (c_X6_isLane l D ca g ha0 hc3) (kd_lt ha0 (by decide)) (gd6 ha0) rfl (kw875 F.kd) (kw877 F.kd) (ks_X6_isLane F.kd) (kw8 F.kd) (kw878 F.kd) yd_X6_isLane ⟨Nat.le_of_ble_eq_true rfl, Nat.le_of_ble_eq_true rfl⟩ rfl hl.1 rfl (Nat.le_of_ble_eq_true rfl) dX6_pulls_2 ⟨Nat.le_of_ble_eq_true rfl, Nat.le_of_ble_eq_true rfl⟩) hG (fun H locs hG => ?_)
  refine lv_if_eq (tgt := 17) hx hb dX6_pulls_5 (by decide) (fun c5 => ?_) (fun c5 => ?_)
  · have h := ite_t h c5
    refine lv_iconst (v := 0) hx hb dX6_pulls_17 (by decide) ?_
    obtain ⟨rfl, rfl⟩ := som2 h
    exact end_z F hr hlk (by decide) hG dX6_pulls_18
  · have h := ite_f h c5
    refine lv_aload_n hx hb dX6_pulls_8 rfl (lv_at hl 0 rfl) ?_
    have hk6 := kt_s1 ha0
    refine xg6 F hG ha0 1 (by decide) (kw642 F.kd) (v := .ref (g (a0 + 1))) rfl dX6_pulls_9 ?_
    refine lv_iload_n hx hb dX6_pulls_12 rfl (lv_at hl 1 rfl) ?_
    obtain ⟨hi7, h⟩ := chk_e h
    refine r_ald F hG hk6 hi7 dX6_pulls_13 ?_
    refine lv_if_ne (tgt := 19) hx hb dX6_pulls_14 (by decide) (fun c8 => ?_) (fun c8 => ?_)
    · have h := ite_f h c8
      refine lv_aload_n hx hb dX6_pulls_19 rfl (lv_at hl 0 rfl) ?_
      have hk9 := kt_s1 ha0
      refine xg6 F hG ha0 1 (by decide) (kw642 F.kd) (v := .ref (g (a0 + 1))) rfl dX6_pulls_20 ?_
      refine lv_iload_n hx hb dX6_pulls_23 rfl (lv_at hl 1 rfl) ?_
      refine lv_dup2_11 hx hb dX6_pulls_24 rfl rfl ?_
      obtain ⟨hi10, h⟩ := chk_e h
      refine r_ald F hG hk9 hi10 dX6_pulls_25 ?_
      refine lv_iconst (v := 1) hx hb dX6_pulls_26 (by decide) ?_
      refine lv_isub hx hb dX6_pulls_27 ?_
      obtain ⟨hi11, h⟩ := chk_e h
      obtain ⟨M12, eM12, h⟩ := mlet_e h
      refine r_ast F hG hk9 hi11 eM12 dX6_pulls_28 (fun H locs hG => ?_)
      refine lv_iconst (v := 1) hx hb dX6_pulls_29 (by decide) ?_
      obtain ⟨rfl, rfl⟩ := som2 h
      exact end_z F hr hlk (by decide) hG dX6_pulls_30
    · have h := ite_t h c8
      refine lv_iconst (v := 0) hx hb dX6_pulls_17 (by decide) ?_
      obtain ⟨rfl, rfl⟩ := som2 h
      exact end_z F hr hlk (by decide) hG dX6_pulls_18
set_option maxHeartbeats 4000000 in
set_option maxRecDepth 100000 in
theorem c_X6_carriesOut (l : Launch) (D : va_G) (ca : vCA) (g : Nat → Nat) {fu : Nat} {M : Mem} {a0 : Nat} {x1 : Int32} {x2 : Int32} {M' : Mem} {r : Int32} (ha0 : kd a0 = 6) (h : m_X6_carriesOut fu M a0 x1 x2 = some (M', r)) : cM l yX6_carriesOut cX6_carriesOut 4 (some .boolean) { frames := 3, cells := 0, slots := 0, locals := 66 } D ca g M [.ref (g a0), .int x1, .int x2] (fun sz => cQi D ca g sz M' r) := by
  refine mk_Met (by decide) (Nat.le_of_ble_eq_true rfl) ?_
  intro p e s m below meth c F hr hlk hnm hG ls hl
  have hx := F.1
  have hb := F.2.1
  replace hl : lv_has ls 4 [(0, .ref (g a0)), (1, .int x1), (2, .int x2)] := hl
  unfold m_X6_carriesOut at h
  refine lv_aload_n hx hb dX6_carriesOut_0 rfl (lv_at hl 0 rfl) ?_
  have hk4 := kt_s2 ha0
  refine xg6 F hG ha0 2 (by decide) (kw644 F.kd) (v := .ref (g (a0 + 2))) rfl dX6_carriesOut_1 ?_
  refine lv_iload_n hx hb dX6_carriesOut_4 rfl (lv_at hl 1 rfl) ?_
  obtain ⟨hi5, h⟩ := chk_e h
  refine r_ald F hG hk4 hi5 dX6_carriesOut_5 ?_
  refine lv_iload_n hx hb dX6_carriesOut_6 rfl (lv_at hl 2 rfl) ?_
  refine lv_iconst (v := 4) hx hb dX6_carriesOut_7 (by decide) ?_
  refine lv_irem hx hb dX6_carriesOut_8 (by decide) ?_
  obtain ⟨r7, hc6, h⟩ := cb1_e h
  refine k_i (r_runSN F hG (c_X7_beside l D ca g hc6) (kw870 F.kd) (kw830 F.kd) (kw7 F.kd) (kw831 F.kd) yd_X7_beside ⟨Nat.le_of_ble_eq_true rfl, Nat.le_of_ble_eq_true rfl⟩ rfl hl.1 rfl (Nat.le_of_ble_eq_true rfl) dX6_carriesOut_9 ⟨Nat.le_of_ble_eq_true rfl, Nat.le_of_ble_eq_true rfl⟩) hG (fun H locs hG => ?_)
  refine lv_istore_n (lv' := [(3, .int r7), (0, .ref (g a0)), (1, .int x1), (2, .int x2)]) hx hb dX6_carriesOut_12 rfl hl (by decide) rfl (fun ls hl => ?_)
  refine lv_iload_n hx hb dX6_carriesOut_13 rfl (lv_at hl 3 rfl) ?_
  refine lv_bipush (v := 7) hx hb dX6_carriesOut_14 (by decide) ?_
  refine lv_icmp_le (tgt := 25) hx hb dX6_carriesOut_16 (by decide) (fun c8 => ?_) (fun c8 => ?_)
  · have h := ite_t h c8
    refine lv_iload_n hx hb dX6_carriesOut_25 rfl (lv_at hl 3 rfl) ?_
    refine lv_iconst (v := 3) hx hb dX6_carriesOut_26 (by decide) ?_
    refine lv_icmp_le (tgt := 39) hx hb dX6_carriesOut_27 (by decide) (fun c9 => ?_) (fun c9 => ?_)
    · have h := ite_t h c9
      refine lv_aload_n hx hb dX6_carriesOut_39 rfl (lv_at hl 1 rfl) ?_
      refine lv_iload_n hx hb dX6_carriesOut_40 rfl (lv_at hl 2 rfl) ?_
      refine lv_iload_n hx hb dX6_carriesOut_41 rfl (lv_at hl 0 rfl) ?_
      refine lv_iload_n hx hb dX6_carriesOut_42 rfl (lv_at hl 0 rfl) ?_
      refine lv_iconst (v := (-1)) hx hb dX6_carriesOut_43 (by decide) ?_
      refine lv_icmp_ne (tgt := 51) hx hb dX6_carriesOut_44 (by decide) (fun c10 => ?_) (fun c10 => ?_)
      · have h := ite_f h c10
        refine lv_iload_n hx hb dX6_carriesOut_51 rfl (lv_at hl 0 rfl) ?_
        refine lv_iload_n hx hb dX6_carriesOut_52 rfl (lv_at hl 3 rfl) ?_
        obtain ⟨r12, hc11, h⟩ := cb1_e h
        refine k_i (r_runSN F hG (c_X7_beside l D ca g hc11) (kw870 F.kd) (kw830 F.kd) (kw7 F.kd) (kw831 F.kd) yd_X7_beside ⟨Nat.le_of_ble_eq_true rfl, Nat.le_of_ble_eq_true rfl⟩ rfl hl.1 rfl (Nat.le_of_ble_eq_true rfl) dX6_carriesOut_53 ⟨Nat.le_of_ble_eq_true rfl, Nat.le_of_ble_eq_true rfl⟩) hG (fun H locs hG => ?_)
        obtain ⟨M15, r14, hc13, h⟩ := cb2_e h
        refine k_i (r_runV F hG (c_X6_goes l D ca g ha0 hc13) (kd_lt ha0 (by decide)) (gd6 ha0) rfl (kw884 F.kd) (kw886 F.kd) (ks_X6_goes F.kd) (kw8 F.kd) (kw887 F.kd) yd_X6_goes ⟨Nat.le_of_ble_eq_true rfl, Nat.le_of_ble_eq_true rfl⟩ rfl hl.1 rfl (Nat.le_of_ble_eq_true rfl) dX6_carriesOut_56 ⟨Nat.le_of_ble_eq_true rfl, Nat.le_of_ble_eq_true rfl⟩) hG (fun H locs hG => ?_)
        obtain ⟨hz16, h⟩ := chk_e h
        obtain ⟨rfl, rfl⟩ := som2 h
        exact end_z F hr hlk hz16 hG dX6_carriesOut_59
      · have h := ite_t h c10
        refine lv_iconst (v := (-1)) hx hb dX6_carriesOut_47 (by decide) ?_
        refine lv_goto (tgt := 56) hx hb dX6_carriesOut_48 (by decide) ?_
        obtain ⟨M19, r18, hc17, h⟩ := cb2_e h
        refine k_i (r_runV F hG (c_X6_goes l D ca g ha0 hc17) (kd_lt ha0 (by decide)) (gd6 ha0) rfl (kw884 F.kd) (kw886 F.kd) (ks_X6_goes F.kd) (kw8 F.kd) (kw887 F.kd) yd_X6_goes ⟨Nat.le_of_ble_eq_true rfl, Nat.le_of_ble_eq_true rfl⟩ rfl hl.1 rfl (Nat.le_of_ble_eq_true rfl) dX6_carriesOut_56 ⟨Nat.le_of_ble_eq_true rfl, Nat.le_of_ble_eq_true rfl⟩) hG (fun H locs hG => ?_)
        obtain ⟨hz20, h⟩ := chk_e h
        obtain ⟨rfl, rfl⟩ := som2 h
        exact end_z F hr hlk hz20 hG dX6_carriesOut_59
    · have h := ite_f h c9
      refine lv_aload_n hx hb dX6_carriesOut_30 rfl (lv_at hl 1 rfl) ?_
      refine lv_iload_n hx hb dX6_carriesOut_31 rfl (lv_at hl 2 rfl) ?_
      refine lv_iload_n hx hb dX6_carriesOut_32 rfl (lv_at hl 0 rfl) ?_
      obtain ⟨M23, r22, hc21, h⟩ := cb2_e h
      refine k_i (r_runV F hG (c_X6_raises l D ca g ha0 hc21) (kd_lt ha0 (by decide)) (gd6 ha0) rfl (kw879 F.kd) (kw881 F.kd) (ks_X6_raises F.kd) (kw8 F.kd) (kw882 F.kd) yd_X6_raises ⟨Nat.le_of_ble_eq_true rfl, Nat.le_of_ble_eq_true rfl⟩ rfl hl.1 rfl (Nat.le_of_ble_eq_true rfl) dX6_carriesOut_33 ⟨Nat.le_of_ble_eq_true rfl, Nat.le_of_ble_eq_true rfl⟩) hG (fun H locs hG => ?_)
      refine lv_goto (tgt := 59) hx hb dX6_carriesOut_36 (by decide) ?_
      obtain ⟨hz24, h⟩ := chk_e h
      obtain ⟨rfl, rfl⟩ := som2 h
      exact end_z F hr hlk hz24 hG dX6_carriesOut_59
  · have h := ite_f h c8
    refine lv_aload_n hx hb dX6_carriesOut_19 rfl (lv_at hl 1 rfl) ?_
    refine lv_iload_n hx hb dX6_carriesOut_20 rfl (lv_at hl 0 rfl) ?_
    obtain ⟨M27, r26, hc25, h⟩ := cb2_e h
    refine k_i (r_runV F hG (c_X6_pulls l D ca g ha0 hc25) (kd_lt ha0 (by decide)) (gd6 ha0) rfl (kw871 F.kd) (kw873 F.kd) (ks_X6_pulls F.kd) (kw8 F.kd) (kw874 F.kd) yd_X6_pulls ⟨Nat.le_of_ble_eq_true rfl, Nat.le_of_ble_eq_true rfl⟩ rfl hl.1 rfl (Nat.le_of_ble_eq_true rfl) dX6_carriesOut_21 ⟨Nat.le_of_ble_eq_true rfl, Nat.le_of_ble_eq_true rfl⟩) hG (fun H locs hG => ?_)
    obtain ⟨hz28, h⟩ := chk_e h
    obtain ⟨rfl, rfl⟩ := som2 h
    exact end_z F hr hlk hz28 hG dX6_carriesOut_24
set_option maxHeartbeats 4000000 in
set_option maxRecDepth 100000 in
theorem c_X6_act (l : Launch) (D : va_G) (ca : vCA) (g : Nat → Nat) {fu : Nat} {M : Mem} {a0 : Nat} {x1 : Int32} {M' : Mem} (ha0 : kd a0 = 6) (h : m_X6_act fu M a0 x1 = some M') : cM l yX6_act cX6_act 3 none { frames := 4, cells := 0, slots := 0, locals := 89 } D ca g M [.ref (g a0), .int x1] (fun sz => cQv D ca g sz M') := by
  refine mk_Met (by decide) (Nat.le_of_ble_eq_true rfl) ?_
  intro p e s m below meth c F hr hlk hnm hG ls hl
  have hx := F.1
  have hb := F.2.1
  replace hl : lv_has ls 3 [(0, .ref (g a0)), (1, .int x1)] := hl
  unfold m_X6_act at h
  refine lv_aload_n hx hb dX6_act_0 rfl (lv_at hl 0 rfl) ?_
  have hk3 := kt_s3 ha0
  refine xg6 F hG ha0 3 (by decide) (kw646 F.kd) (v := .ref (g (a0 + 3))) rfl dX6_act_1 ?_
  refine lv_iload_n hx hb dX6_act_4 rfl (lv_at hl 1 rfl) ?_
  obtain ⟨hi4, h⟩ := chk_e h
  refine r_ald F hG hk3 hi4 dX6_act_5 ?_
  refine lv_if_eq (tgt := 18) hx hb dX6_act_6 (by decide) (fun c5 => ?_) (fun c5 => ?_)
  · have h := ite_t h c5
    obtain rfl := som1 h
    exact end_v F hr hlk hG dX6_act_18
  · have h := ite_f h c5
    refine lv_aload_n hx hb dX6_act_9 rfl (lv_at hl 0 rfl) ?_
    have hk6 := kt_s5 ha0
    refine xg6 F hG ha0 5 (by decide) (kw650 F.kd) (v := .ref (g (a0 + 5))) rfl dX6_act_10 ?_
    refine lv_iload_n hx hb dX6_act_13 rfl (lv_at hl 1 rfl) ?_
    obtain ⟨hi7, h⟩ := chk_e h
    refine r_ald F hG hk6 hi7 dX6_act_14 ?_
    refine lv_if_ne (tgt := 19) hx hb dX6_act_15 (by decide) (fun c8 => ?_) (fun c8 => ?_)
    · have h := ite_f h c8
      refine lv_aload_n hx hb dX6_act_19 rfl (lv_at hl 0 rfl) ?_
      have hk9 := kt_s6 ha0
      refine xg6 F hG ha0 6 (by decide) (kw652 F.kd) (v := .ref (g (a0 + 6))) rfl dX6_act_20 ?_
      refine lv_bipush (v := 24) hx hb dX6_act_23 (by decide) ?_
      refine lv_iload_n hx hb dX6_act_25 rfl (lv_at hl 1 rfl) ?_
      refine lv_imul hx hb dX6_act_26 ?_
      obtain ⟨hi10, h⟩ := chk_e h
      refine r_ald F hG hk9 hi10 dX6_act_27 ?_
      refine lv_topi (fun x11 ex11 => ?_)
      have h := mlet_n h ex11
      refine lv_istore_n (lv' := [(2, .int x11), (0, .ref (g a0)), (1, .int x1)]) hx hb dX6_act_28 rfl hl (by decide) rfl (fun ls hl => ?_)
      refine lv_aload_n hx hb dX6_act_29 rfl (lv_at hl 1 rfl) ?_
      have hk12 := kt_s5 ha0
      refine xg6 F hG ha0 5 (by decide) (kw650 F.kd) (v := .ref (g (a0 + 5))) rfl dX6_act_30 ?_
      refine lv_iload_n hx hb dX6_act_33 rfl (lv_at hl 2 rfl) ?_
      refine lv_dup2_11 hx hb dX6_act_34 rfl rfl ?_
      obtain ⟨hi13, h⟩ := chk_e h
      refine r_ald F hG hk12 hi13 dX6_act_35 ?_
      refine lv_iconst (v := 1) hx hb dX6_act_36 (by decide) ?_
      refine lv_isub hx hb dX6_act_37 ?_
      obtain ⟨hi14, h⟩ := chk_e h
      obtain ⟨M15, eM15, h⟩ := mlet_e h
      refine r_ast F hG hk12 hi14 eM15 dX6_act_38 (fun H locs hG => ?_)
      refine lv_aload_n hx hb dX6_act_39 rfl (lv_at hl 1 rfl) ?_
      have hk16 := kt_s6 ha0
      refine xg6 F hG ha0 6 (by decide) (kw652 F.kd) (v := .ref (g (a0 + 6))) rfl dX6_act_40 ?_
      refine lv_bipush (v := 24) hx hb dX6_act_43 (by decide) ?_
      refine lv_iload_n hx hb dX6_act_45 rfl (lv_at hl 2 rfl) ?_
      refine lv_imul hx hb dX6_act_46 ?_
      refine lv_iconst (v := 1) hx hb dX6_act_47 (by decide) ?_
      refine lv_iadd hx hb dX6_act_48 ?_
      refine lv_aload_n hx hb dX6_act_49 rfl (lv_at hl 1 rfl) ?_
      have hk17 := kt_s6 ha0
      refine xg6 F hG ha0 6 (by decide) (kw652 F.kd) (v := .ref (g (a0 + 6))) rfl dX6_act_50 ?_
      refine lv_bipush (v := 24) hx hb dX6_act_53 (by decide) ?_
      refine lv_iload_n hx hb dX6_act_55 rfl (lv_at hl 2 rfl) ?_
      refine lv_imul hx hb dX6_act_56 ?_
      refine lv_aload_n hx hb dX6_act_57 rfl (lv_at hl 1 rfl) ?_
      have hk18 := kt_s5 ha0
      refine xg6 F hG ha0 5 (by decide) (kw650 F.kd) (v := .ref (g (a0 + 5))) rfl dX6_act_58 ?_
      refine lv_iload_n hx hb dX6_act_61 rfl (lv_at hl 2 rfl) ?_
      obtain ⟨hi19, h⟩ := chk_e h
      refine r_ald F hG hk18 hi19 dX6_act_62 ?_
      obtain ⟨hc20, h⟩ := chk_e h
      obtain ⟨M21, eM21, h⟩ := mlet_e h
      refine r_copy F hG hk16 hk17 hc20 eM21 hl.1 (kw865 F.kd) (kw560 F.kd) (kw559 F.kd) (kw18 F.kd) (Nat.le_of_ble_eq_true rfl) (Nat.le_of_ble_eq_true rfl) dX6_act_63 (fun H locs hG => ?_)
      refine lv_aload_n hx hb dX6_act_66 rfl (lv_at hl 1 rfl) ?_
      refine lv_iload_n hx hb dX6_act_67 rfl (lv_at hl 2 rfl) ?_
      refine lv_iload_n hx hb dX6_act_68 rfl (lv_at hl 0 rfl) ?_
      obtain ⟨M24, r23, hc22, h⟩ := cb2_e h
      refine k_i (r_runV F hG (c_X6_carriesOut l D ca g ha0 hc22) (kd_lt ha0 (by decide)) (gd6 ha0) rfl (kw866 F.kd) (kw868 F.kd) (ks_X6_carriesOut F.kd) (kw8 F.kd) (kw869 F.kd) yd_X6_carriesOut ⟨Nat.le_of_ble_eq_true rfl, Nat.le_of_ble_eq_true rfl⟩ rfl hl.1 rfl (Nat.le_of_ble_eq_true rfl) dX6_act_69 ⟨Nat.le_of_ble_eq_true rfl, Nat.le_of_ble_eq_true rfl⟩) hG (fun H locs hG => ?_)
      refine lv_if_ne (tgt := 85) hx hb dX6_act_72 (by decide) (fun c25 => ?_) (fun c25 => ?_)
      · have h := ite_f h c25
        obtain rfl := som1 h
        exact end_v F hr hlk hG dX6_act_85
      · have h := ite_t h c25
        refine lv_aload_n hx hb dX6_act_75 rfl (lv_at hl 1 rfl) ?_
        have hk26 := kt_s7 ha0
        refine xg6 F hG ha0 7 (by decide) (kw654 F.kd) (v := .ref (g (a0 + 7))) rfl dX6_act_76 ?_
        refine lv_iload_n hx hb dX6_act_79 rfl (lv_at hl 2 rfl) ?_
        refine lv_dup2_11 hx hb dX6_act_80 rfl rfl ?_
        obtain ⟨hi27, h⟩ := chk_e h
        refine r_ald F hG hk26 hi27 dX6_act_81 ?_
        refine lv_iconst (v := 1) hx hb dX6_act_82 (by decide) ?_
        refine lv_iadd hx hb dX6_act_83 ?_
        obtain ⟨hi28, h⟩ := chk_e h
        obtain ⟨M29, eM29, h⟩ := mlet_e h
        refine r_ast F hG hk26 hi28 eM29 dX6_act_84 (fun H locs hG => ?_)
        obtain rfl := som1 h
        exact end_v F hr hlk hG dX6_act_85
    · have h := ite_t h c8
      obtain rfl := som1 h
      exact end_v F hr hlk hG dX6_act_18
set_option maxHeartbeats 4000000 in
set_option maxRecDepth 100000 in
theorem c_X6_patrol (l : Launch) (D : va_G) (ca : vCA) (g : Nat → Nat) {fu : Nat} {M : Mem} {a0 : Nat} {x1 : Int32} {M' : Mem} (ha0 : kd a0 = 6) (h : m_X6_patrol fu M a0 x1 = some M') : cM l yX6_patrol cX6_patrol 3 none { frames := 3, cells := 0, slots := 0, locals := 66 } D ca g M [.ref (g a0), .int x1] (fun sz => cQv D ca g sz M') := by
  refine mk_Met (by decide) (Nat.le_of_ble_eq_true rfl) ?_
  intro p e s m below meth c F hr hlk hnm hG ls hl
  have hx := F.1
  have hb := F.2.1
  replace hl : lv_has ls 3 [(0, .ref (g a0)), (1, .int x1)] := hl
  unfold m_X6_patrol at h
  refine lv_aload_n hx hb dX6_patrol_0 rfl (lv_at hl 0 rfl) ?_
  have hk3 := kt_s8 ha0
  refine xg6 F hG ha0 8 (by decide) (kw656 F.kd) (v := .ref (g (a0 + 8))) rfl dX6_patrol_1 ?_
  refine lv_iload_n hx hb dX6_patrol_4 rfl (lv_at hl 1 rfl) ?_
  obtain ⟨hi4, h⟩ := chk_e h
  refine r_ald F hG hk3 hi4 dX6_patrol_5 ?_
  refine lv_aload_n hx hb dX6_patrol_6 rfl (lv_at hl 0 rfl) ?_
  have hk5 := (show kd 44 = 7 from rfl)
  refine xg6 F hG ha0 10 (by decide) (kw660 F.kd) (v := .ref (g 44)) rfl dX6_patrol_7 ?_
  have hk6 := kt_m2 hk5
  refine xg7N F hG hk5 4 (by decide) (kw692 F.kd) (v := .ref (g (44 + 2))) rfl dX6_patrol_10 ?_
  refine lv_bipush (v := 12) hx hb dX6_patrol_13 (by decide) ?_
  refine lv_iload_n hx hb dX6_patrol_15 rfl (lv_at hl 1 rfl) ?_
  refine lv_imul hx hb dX6_patrol_16 ?_
  refine lv_aload_n hx hb dX6_patrol_17 rfl (lv_at hl 0 rfl) ?_
  have hk7 := kt_s9 ha0
  refine xg6 F hG ha0 9 (by decide) (kw658 F.kd) (v := .ref (g (a0 + 9))) rfl dX6_patrol_18 ?_
  refine lv_iload_n hx hb dX6_patrol_21 rfl (lv_at hl 1 rfl) ?_
  obtain ⟨hi8, h⟩ := chk_e h
  refine r_ald F hG hk7 hi8 dX6_patrol_22 ?_
  refine lv_iadd hx hb dX6_patrol_23 ?_
  obtain ⟨hi9, h⟩ := chk_e h
  refine r_ald F hG hk6 hi9 dX6_patrol_24 ?_
  obtain ⟨r11, hc10, h⟩ := cb1_e h
  refine k_i (r_runSN F hG (c_X7_beside l D ca g hc10) (kw870 F.kd) (kw830 F.kd) (kw7 F.kd) (kw831 F.kd) yd_X7_beside ⟨Nat.le_of_ble_eq_true rfl, Nat.le_of_ble_eq_true rfl⟩ rfl hl.1 rfl (Nat.le_of_ble_eq_true rfl) dX6_patrol_25 ⟨Nat.le_of_ble_eq_true rfl, Nat.le_of_ble_eq_true rfl⟩) hG (fun H locs hG => ?_)
  refine lv_istore_n (lv' := [(2, .int r11), (0, .ref (g a0)), (1, .int x1)]) hx hb dX6_patrol_28 rfl hl (by decide) rfl (fun ls hl => ?_)
  refine lv_aload_n hx hb dX6_patrol_29 rfl (lv_at hl 1 rfl) ?_
  refine lv_iload_n hx hb dX6_patrol_30 rfl (lv_at hl 0 rfl) ?_
  obtain ⟨r13, hc12, h⟩ := cb1_e h
  refine k_i (r_runV F hG (c_X6_isLane l D ca g ha0 hc12) (kd_lt ha0 (by decide)) (gd6 ha0) rfl (kw875 F.kd) (kw877 F.kd) (ks_X6_isLane F.kd) (kw8 F.kd) (kw878 F.kd) yd_X6_isLane ⟨Nat.le_of_ble_eq_true rfl, Nat.le_of_ble_eq_true rfl⟩ rfl hl.1 rfl (Nat.le_of_ble_eq_true rfl) dX6_patrol_31 ⟨Nat.le_of_ble_eq_true rfl, Nat.le_of_ble_eq_true rfl⟩) hG (fun H locs hG => ?_)
  refine lv_if_eq (tgt := 53) hx hb dX6_patrol_34 (by decide) (fun c14 => ?_) (fun c14 => ?_)
  · have h := ite_t h c14
    refine lv_aload_n hx hb dX6_patrol_53 rfl (lv_at hl 1 rfl) ?_
    have hk15 := kt_s9 ha0
    refine xg6 F hG ha0 9 (by decide) (kw658 F.kd) (v := .ref (g (a0 + 9))) rfl dX6_patrol_54 ?_
    refine lv_iload_n hx hb dX6_patrol_57 rfl (lv_at hl 2 rfl) ?_
    refine lv_aload_n hx hb dX6_patrol_58 rfl (lv_at hl 1 rfl) ?_
    have hk16 := kt_s9 ha0
    refine xg6 F hG ha0 9 (by decide) (kw658 F.kd) (v := .ref (g (a0 + 9))) rfl dX6_patrol_59 ?_
    refine lv_iload_n hx hb dX6_patrol_62 rfl (lv_at hl 2 rfl) ?_
    obtain ⟨hi17, h⟩ := chk_e h
    refine r_ald F hG hk16 hi17 dX6_patrol_63 ?_
    refine lv_iconst (v := 1) hx hb dX6_patrol_64 (by decide) ?_
    refine lv_iadd hx hb dX6_patrol_65 ?_
    refine lv_aload_n hx hb dX6_patrol_66 rfl (lv_at hl 1 rfl) ?_
    have hk18 := (show kd 44 = 7 from rfl)
    refine xg6 F hG ha0 10 (by decide) (kw660 F.kd) (v := .ref (g 44)) rfl dX6_patrol_67 ?_
    have hk19 := kt_m1 hk18
    refine xg7N F hG hk18 3 (by decide) (kw690 F.kd) (v := .ref (g (44 + 1))) rfl dX6_patrol_70 ?_
    refine lv_iload_n hx hb dX6_patrol_73 rfl (lv_at hl 2 rfl) ?_
    obtain ⟨hi20, h⟩ := chk_e h
    refine r_ald F hG hk19 hi20 dX6_patrol_74 ?_
    obtain ⟨hn21, h⟩ := chk_e h
    obtain ⟨x22, ex22, h⟩ := mlet_e h
    rw [← ex22]
    refine lv_irem hx hb dX6_patrol_75 (of_decide_eq_true hn21) ?_
    obtain ⟨hi23, h⟩ := chk_e h
    obtain ⟨M24, eM24, h⟩ := mlet_e h
    refine r_ast F hG hk15 hi23 eM24 dX6_patrol_76 (fun H locs hG => ?_)
    obtain rfl := som1 h
    exact end_v F hr hlk hG dX6_patrol_77
  · have h := ite_f h c14
    refine lv_aload_n hx hb dX6_patrol_37 rfl (lv_at hl 1 rfl) ?_
    have hk25 := kt_s1 ha0
    refine xg6 F hG ha0 1 (by decide) (kw642 F.kd) (v := .ref (g (a0 + 1))) rfl dX6_patrol_38 ?_
    refine lv_iload_n hx hb dX6_patrol_41 rfl (lv_at hl 0 rfl) ?_
    obtain ⟨hi26, h⟩ := chk_e h
    refine r_ald F hG hk25 hi26 dX6_patrol_42 ?_
    refine lv_if_ne (tgt := 53) hx hb dX6_patrol_43 (by decide) (fun c27 => ?_) (fun c27 => ?_)
    · have h := ite_f h c27
      refine lv_aload_n hx hb dX6_patrol_53 rfl (lv_at hl 1 rfl) ?_
      have hk28 := kt_s9 ha0
      refine xg6 F hG ha0 9 (by decide) (kw658 F.kd) (v := .ref (g (a0 + 9))) rfl dX6_patrol_54 ?_
      refine lv_iload_n hx hb dX6_patrol_57 rfl (lv_at hl 2 rfl) ?_
      refine lv_aload_n hx hb dX6_patrol_58 rfl (lv_at hl 1 rfl) ?_
      have hk29 := kt_s9 ha0
      refine xg6 F hG ha0 9 (by decide) (kw658 F.kd) (v := .ref (g (a0 + 9))) rfl dX6_patrol_59 ?_
      refine lv_iload_n hx hb dX6_patrol_62 rfl (lv_at hl 2 rfl) ?_
      obtain ⟨hi30, h⟩ := chk_e h
      refine r_ald F hG hk29 hi30 dX6_patrol_63 ?_
      refine lv_iconst (v := 1) hx hb dX6_patrol_64 (by decide) ?_
      refine lv_iadd hx hb dX6_patrol_65 ?_
      refine lv_aload_n hx hb dX6_patrol_66 rfl (lv_at hl 1 rfl) ?_
      have hk31 := (show kd 44 = 7 from rfl)
      refine xg6 F hG ha0 10 (by decide) (kw660 F.kd) (v := .ref (g 44)) rfl dX6_patrol_67 ?_
      have hk32 := kt_m1 hk31
      refine xg7N F hG hk31 3 (by decide) (kw690 F.kd) (v := .ref (g (44 + 1))) rfl dX6_patrol_70 ?_
      refine lv_iload_n hx hb dX6_patrol_73 rfl (lv_at hl 2 rfl) ?_
      obtain ⟨hi33, h⟩ := chk_e h
      refine r_ald F hG hk32 hi33 dX6_patrol_74 ?_
      obtain ⟨hn34, h⟩ := chk_e h
      obtain ⟨x35, ex35, h⟩ := mlet_e h
      rw [← ex35]
      refine lv_irem hx hb dX6_patrol_75 (of_decide_eq_true hn34) ?_
      obtain ⟨hi36, h⟩ := chk_e h
      obtain ⟨M37, eM37, h⟩ := mlet_e h
      refine r_ast F hG hk28 hi36 eM37 dX6_patrol_76 (fun H locs hG => ?_)
      obtain rfl := som1 h
      exact end_v F hr hlk hG dX6_patrol_77
    · have h := ite_t h c27
      refine lv_aload_n hx hb dX6_patrol_46 rfl (lv_at hl 1 rfl) ?_
      have hk38 := kt_s8 ha0
      refine xg6 F hG ha0 8 (by decide) (kw656 F.kd) (v := .ref (g (a0 + 8))) rfl dX6_patrol_47 ?_
      refine lv_iload_n hx hb dX6_patrol_50 rfl (lv_at hl 2 rfl) ?_
      refine lv_iload_n hx hb dX6_patrol_51 rfl (lv_at hl 0 rfl) ?_
      obtain ⟨hi39, h⟩ := chk_e h
      obtain ⟨M40, eM40, h⟩ := mlet_e h
      refine r_ast F hG hk38 hi39 eM40 dX6_patrol_52 (fun H locs hG => ?_)
      refine lv_aload_n hx hb dX6_patrol_53 rfl (lv_at hl 1 rfl) ?_
      have hk41 := kt_s9 ha0
      refine xg6 F hG ha0 9 (by decide) (kw658 F.kd) (v := .ref (g (a0 + 9))) rfl dX6_patrol_54 ?_
      refine lv_iload_n hx hb dX6_patrol_57 rfl (lv_at hl 2 rfl) ?_
      refine lv_aload_n hx hb dX6_patrol_58 rfl (lv_at hl 1 rfl) ?_
      have hk42 := kt_s9 ha0
      refine xg6 F hG ha0 9 (by decide) (kw658 F.kd) (v := .ref (g (a0 + 9))) rfl dX6_patrol_59 ?_
      refine lv_iload_n hx hb dX6_patrol_62 rfl (lv_at hl 2 rfl) ?_
      obtain ⟨hi43, h⟩ := chk_e h
      refine r_ald F hG hk42 hi43 dX6_patrol_63 ?_
      refine lv_iconst (v := 1) hx hb dX6_patrol_64 (by decide) ?_
      refine lv_iadd hx hb dX6_patrol_65 ?_
      refine lv_aload_n hx hb dX6_patrol_66 rfl (lv_at hl 1 rfl) ?_
      have hk44 := (show kd 44 = 7 from rfl)
      refine xg6 F hG ha0 10 (by decide) (kw660 F.kd) (v := .ref (g 44)) rfl dX6_patrol_67 ?_
      have hk45 := kt_m1 hk44
      refine xg7N F hG hk44 3 (by decide) (kw690 F.kd) (v := .ref (g (44 + 1))) rfl dX6_patrol_70 ?_
      refine lv_iload_n hx hb dX6_patrol_73 rfl (lv_at hl 2 rfl) ?_
      obtain ⟨hi46, h⟩ := chk_e h
      refine r_ald F hG hk45 hi46 dX6_patrol_74 ?_
      obtain ⟨hn47, h⟩ := chk_e h
      obtain ⟨x48, ex48, h⟩ := mlet_e h
      rw [← ex48]
      refine lv_irem hx hb dX6_patrol_75 (of_decide_eq_true hn47) ?_
      obtain ⟨hi49, h⟩ := chk_e h
      obtain ⟨M50, eM50, h⟩ := mlet_e h
      refine r_ast F hG hk41 hi49 eM50 dX6_patrol_76 (fun H locs hG => ?_)
      obtain rfl := som1 h
      exact end_v F hr hlk hG dX6_patrol_77

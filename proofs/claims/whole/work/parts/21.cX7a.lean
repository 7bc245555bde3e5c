set_option maxHeartbeats 4000000 in
set_option maxRecDepth 100000 in
theorem c_X7_thrown (l : Launch) (D : va_G) (ca : vCA) (g : Nat → Nat) {fu : Nat} {M : Mem} {a0 : Nat} {r : Int32} (ha0 : kd a0 = 7) (h : m_X7_thrown fu M a0 = some r) : cM l yX7_thrown cX7_thrown 1 (some .int) { frames := 0, cells := 0, slots := 0, locals := 0 } D ca g M [.ref (g a0)] (fun sz => cQi D ca g sz M r) := by
  refine mk_Met (by decide) (Nat.le_of_ble_eq_true rfl) ?_
  intro p e s m below meth c F hr hlk hnm hG ls hl
  have hx := F.1
  have hb := F.2.1
  replace hl : lv_has ls 1 [(0, .ref (g a0))] := hl
  unfold m_X7_thrown at h
  refine lv_aload_n hx hb dX7_thrown_0 rfl (lv_at hl 0 rfl) ?_
  refine xg7 F hG ha0 0 (by decide) (kw684 F.kd) (v := .int (M a0 0)) rfl dX7_thrown_1 ?_
  obtain rfl := som1 h
  exact end_i F hr hlk hG dX7_thrown_4
set_option maxHeartbeats 4000000 in
set_option maxRecDepth 100000 in
theorem c_X7_no (l : Launch) (D : va_G) (ca : vCA) (g : Nat → Nat) {fu : Nat} {M : Mem} {a0 : Nat} {x1 : Int32} {M' : Mem} {r : Int32} (ha0 : kd a0 = 7) (h : m_X7_no fu M a0 x1 = some (M', r)) : cM l yX7_no cX7_no 2 (some .int) { frames := 0, cells := 0, slots := 0, locals := 0 } D ca g M [.ref (g a0), .int x1] (fun sz => cQi D ca g sz M' r) := by
  refine mk_Met (by decide) (Nat.le_of_ble_eq_true rfl) ?_
  intro p e s m below meth c F hr hlk hnm hG ls hl
  have hx := F.1
  have hb := F.2.1
  replace hl : lv_has ls 2 [(0, .ref (g a0)), (1, .int x1)] := hl
  unfold m_X7_no at h
  refine lv_aload_n hx hb dX7_no_0 rfl (lv_at hl 0 rfl) ?_
  refine lv_iload_n hx hb dX7_no_1 rfl (lv_at hl 1 rfl) ?_
  obtain ⟨M3, eM3, h⟩ := mlet_e h
  refine xp7 F hG ha0 eM3 rfl (by decide) (kw684 F.kd) rfl rfl rfl dX7_no_2 (fun H locs hG => ?_)
  refine lv_iconst (v := 0) hx hb dX7_no_5 (by decide) ?_
  obtain ⟨rfl, rfl⟩ := som2 h
  exact end_i F hr hlk hG dX7_no_6
set_option maxHeartbeats 4000000 in
set_option maxRecDepth 100000 in
theorem c_X7_isCrowd (l : Launch) (D : va_G) (ca : vCA) (g : Nat → Nat) {fu : Nat} {M : Mem} {a0 : Nat} {x1 : Int32} {r : Int32} (ha0 : kd a0 = 7) (h : m_X7_isCrowd fu M a0 x1 = some r) : cM l yX7_isCrowd cX7_isCrowd 2 (some .boolean) { frames := 1, cells := 0, slots := 0, locals := 22 } D ca g M [.ref (g a0), .int x1] (fun sz => cQi D ca g sz M r) := by
  refine mk_Met (by decide) (Nat.le_of_ble_eq_true rfl) ?_
  intro p e s m below meth c F hr hlk hnm hG ls hl
  have hx := F.1
  have hb := F.2.1
  replace hl : lv_has ls 2 [(0, .ref (g a0)), (1, .int x1)] := hl
  unfold m_X7_isCrowd at h
  refine lv_iload_n hx hb dX7_isCrowd_0 rfl (lv_at hl 1 rfl) ?_
  refine lv_iconst (v := 0) hx hb dX7_isCrowd_1 (by decide) ?_
  refine lv_aload_n hx hb dX7_isCrowd_2 rfl (lv_at hl 0 rfl) ?_
  refine xg7 F hG ha0 1 (by decide) (kw686 F.kd) (v := .int (M a0 1)) rfl dX7_isCrowd_3 ?_
  refine lv_iconst (v := 1) hx hb dX7_isCrowd_6 (by decide) ?_
  refine lv_isub hx hb dX7_isCrowd_7 ?_
  obtain ⟨r4, hc3, h⟩ := cb1_e h
  refine k_i (r_runS F hG (c_X7_isIn l D ca g hc3) (kw728 F.kd) (kw729 F.kd) (kw7 F.kd) (kw730 F.kd) yd_X7_isIn ⟨Nat.le_of_ble_eq_true rfl, Nat.le_of_ble_eq_true rfl⟩ rfl hl.1 rfl (Nat.le_of_ble_eq_true rfl) dX7_isCrowd_8 ⟨Nat.le_of_ble_eq_true rfl, Nat.le_of_ble_eq_true rfl⟩) hG (fun H locs hG => ?_)
  obtain ⟨hz5, h⟩ := chk_e h
  obtain rfl := som1 h
  exact end_z F hr hlk hz5 hG dX7_isCrowd_11
set_option maxHeartbeats 4000000 in
set_option maxRecDepth 100000 in
theorem c_X7_isPatrol (l : Launch) (D : va_G) (ca : vCA) (g : Nat → Nat) {fu : Nat} {M : Mem} {a0 : Nat} {x1 : Int32} {r : Int32} (ha0 : kd a0 = 7) (h : m_X7_isPatrol fu M a0 x1 = some r) : cM l yX7_isPatrol cX7_isPatrol 2 (some .boolean) { frames := 1, cells := 0, slots := 0, locals := 22 } D ca g M [.ref (g a0), .int x1] (fun sz => cQi D ca g sz M r) := by
  refine mk_Met (by decide) (Nat.le_of_ble_eq_true rfl) ?_
  intro p e s m below meth c F hr hlk hnm hG ls hl
  have hx := F.1
  have hb := F.2.1
  replace hl : lv_has ls 2 [(0, .ref (g a0)), (1, .int x1)] := hl
  unfold m_X7_isPatrol at h
  refine lv_iload_n hx hb dX7_isPatrol_0 rfl (lv_at hl 1 rfl) ?_
  refine lv_iconst (v := 0) hx hb dX7_isPatrol_1 (by decide) ?_
  refine lv_aload_n hx hb dX7_isPatrol_2 rfl (lv_at hl 0 rfl) ?_
  refine xg7 F hG ha0 2 (by decide) (kw688 F.kd) (v := .int (M a0 2)) rfl dX7_isPatrol_3 ?_
  refine lv_iconst (v := 1) hx hb dX7_isPatrol_6 (by decide) ?_
  refine lv_isub hx hb dX7_isPatrol_7 ?_
  obtain ⟨r4, hc3, h⟩ := cb1_e h
  refine k_i (r_runS F hG (c_X7_isIn l D ca g hc3) (kw728 F.kd) (kw729 F.kd) (kw7 F.kd) (kw730 F.kd) yd_X7_isIn ⟨Nat.le_of_ble_eq_true rfl, Nat.le_of_ble_eq_true rfl⟩ rfl hl.1 rfl (Nat.le_of_ble_eq_true rfl) dX7_isPatrol_8 ⟨Nat.le_of_ble_eq_true rfl, Nat.le_of_ble_eq_true rfl⟩) hG (fun H locs hG => ?_)
  obtain ⟨hz5, h⟩ := chk_e h
  obtain rfl := som1 h
  exact end_z F hr hlk hz5 hG dX7_isPatrol_11
set_option maxHeartbeats 4000000 in
set_option maxRecDepth 100000 in
theorem c_X7_house (l : Launch) (D : va_G) (ca : vCA) (g : Nat → Nat) {fu : Nat} {M : Mem} {a0 : Nat} {x1 : Int32} {x2 : Int32} {M' : Mem} {r : Int32} (ha0 : kd a0 = 7) (h : m_X7_house fu M a0 x1 x2 = some (M', r)) : cM l yX7_house cX7_house 4 (some .boolean) { frames := 2, cells := 0, slots := 0, locals := 43 } D ca g M [.ref (g a0), .int x1, .int x2] (fun sz => cQi D ca g sz M' r) := by
  refine mk_Met (by decide) (Nat.le_of_ble_eq_true rfl) ?_
  intro p e s m below meth c F hr hlk hnm hG ls hl
  have hx := F.1
  have hb := F.2.1
  replace hl : lv_has ls 4 [(0, .ref (g a0)), (1, .int x1), (2, .int x2)] := hl
  unfold m_X7_house at h
  refine lv_aload_n hx hb dX7_house_0 rfl (lv_at hl 0 rfl) ?_
  refine lv_iconst (v := 0) hx hb dX7_house_1 (by decide) ?_
  obtain ⟨M4, eM4, h⟩ := mlet_e h
  refine xp7 F hG ha0 eM4 rfl (by decide) (kw684 F.kd) rfl rfl rfl dX7_house_2 (fun H locs hG => ?_)
  refine lv_iload_n hx hb dX7_house_5 rfl (lv_at hl 1 rfl) ?_
  refine lv_iload_n hx hb dX7_house_6 rfl (lv_at hl 2 rfl) ?_
  obtain ⟨r6, hc5, h⟩ := cb1_e h
  refine k_i (r_runS F hG (c_X7_isCell l D ca g hc5) (kw725 F.kd) (kw726 F.kd) (kw7 F.kd) (kw727 F.kd) yd_X7_isCell ⟨Nat.le_of_ble_eq_true rfl, Nat.le_of_ble_eq_true rfl⟩ rfl hl.1 rfl (Nat.le_of_ble_eq_true rfl) dX7_house_7 ⟨Nat.le_of_ble_eq_true rfl, Nat.le_of_ble_eq_true rfl⟩) hG (fun H locs hG => ?_)
  refine lv_if_ne (tgt := 27) hx hb dX7_house_10 (by decide) (fun c7 => ?_) (fun c7 => ?_)
  · have h := ite_f h c7
    refine lv_bipush (v := 12) hx hb dX7_house_27 (by decide) ?_
    refine lv_iload_n hx hb dX7_house_29 rfl (lv_at hl 2 rfl) ?_
    refine lv_imul hx hb dX7_house_30 ?_
    refine lv_iload_n hx hb dX7_house_31 rfl (lv_at hl 1 rfl) ?_
    refine lv_iadd hx hb dX7_house_32 ?_
    refine lv_topi (fun x8 ex8 => ?_)
    have h := mlet_n h ex8
    refine lv_istore_n (lv' := [(3, .int x8), (0, .ref (g a0)), (1, .int x1), (2, .int x2)]) hx hb dX7_house_33 rfl hl (by decide) rfl (fun ls hl => ?_)
    refine lv_aload_n hx hb dX7_house_34 rfl (lv_at hl 1 rfl) ?_
    have hk9 := (show kd 49 = 6 from rfl)
    refine xg7 F hG ha0 7 (by decide) (kw696 F.kd) (v := .ref (g 49)) rfl dX7_house_35 ?_
    have hk10 := kt_s1 hk9
    refine xg6N F hG hk9 1 (by decide) (kw643 F.kd) (v := .ref (g (49 + 1))) rfl dX7_house_38 ?_
    refine lv_iload_n hx hb dX7_house_41 rfl (lv_at hl 0 rfl) ?_
    obtain ⟨hi11, h⟩ := chk_e h
    refine r_ald F hG hk10 hi11 dX7_house_42 ?_
    refine lv_if_gt (tgt := 57) hx hb dX7_house_43 (by decide) (fun c12 => ?_) (fun c12 => ?_)
    · have h := ite_t h c12
      refine lv_aload_n hx hb dX7_house_57 rfl (lv_at hl 1 rfl) ?_
      refine lv_iconst (v := 2) hx hb dX7_house_58 (by decide) ?_
      obtain ⟨M15, r14, hc13, h⟩ := cb2_e h
      refine k_i (r_runV F hG (c_X7_no l D ca g ha0 hc13) (kd_lt ha0 (by decide)) (gd7 ha0) rfl (kw731 F.kd) (kw733 F.kd) (ks_X7_no F.kd) (kw7 F.kd) (kw734 F.kd) yd_X7_no ⟨Nat.le_of_ble_eq_true rfl, Nat.le_of_ble_eq_true rfl⟩ rfl hl.1 rfl (Nat.le_of_ble_eq_true rfl) dX7_house_59 ⟨Nat.le_of_ble_eq_true rfl, Nat.le_of_ble_eq_true rfl⟩) hG (fun H locs hG => ?_)
      refine lv_if_eq (tgt := 69) hx hb dX7_house_62 (by decide) (fun c16 => ?_) (fun c16 => ?_)
      · have h := ite_t h c16
        refine lv_iconst (v := 0) hx hb dX7_house_69 (by decide) ?_
        obtain ⟨rfl, rfl⟩ := som2 h
        exact end_z F hr hlk (by decide) hG dX7_house_70
      · have h := ite_f h c16
        refine lv_iconst (v := 1) hx hb dX7_house_65 (by decide) ?_
        refine lv_goto (tgt := 70) hx hb dX7_house_66 (by decide) ?_
        obtain ⟨rfl, rfl⟩ := som2 h
        exact end_z F hr hlk (by decide) hG dX7_house_70
    · have h := ite_f h c12
      refine lv_aload_n hx hb dX7_house_46 rfl (lv_at hl 1 rfl) ?_
      have hk17 := (show kd 49 = 6 from rfl)
      refine xg7 F hG ha0 7 (by decide) (kw696 F.kd) (v := .ref (g 49)) rfl dX7_house_47 ?_
      refine lv_iload_n hx hb dX7_house_50 rfl (lv_at hl 0 rfl) ?_
      obtain ⟨r19, hc18, h⟩ := cb1_e h
      refine k_i (r_runV F hG (c_X6_isBusy l D ca g hk17 hc18) (kd_lt hk17 (by decide)) (gd6 hk17) rfl (kw735 F.kd) (kw736 F.kd) (kw737 F.kd) (kw8 F.kd) (kw738 F.kd) yd_X6_isBusy ⟨Nat.le_of_ble_eq_true rfl, Nat.le_of_ble_eq_true rfl⟩ rfl hl.1 rfl (Nat.le_of_ble_eq_true rfl) dX7_house_51 ⟨Nat.le_of_ble_eq_true rfl, Nat.le_of_ble_eq_true rfl⟩) hG (fun H locs hG => ?_)
      refine lv_if_eq (tgt := 71) hx hb dX7_house_54 (by decide) (fun c20 => ?_) (fun c20 => ?_)
      · have h := ite_t h c20
        refine lv_aload_n hx hb dX7_house_71 rfl (lv_at hl 1 rfl) ?_
        have hk21 := (show kd 49 = 6 from rfl)
        refine xg7 F hG ha0 7 (by decide) (kw696 F.kd) (v := .ref (g 49)) rfl dX7_house_72 ?_
        have hk22 := kt_s1 hk21
        refine xg6N F hG hk21 1 (by decide) (kw643 F.kd) (v := .ref (g (49 + 1))) rfl dX7_house_75 ?_
        refine lv_iload_n hx hb dX7_house_78 rfl (lv_at hl 0 rfl) ?_
        refine lv_aload_n hx hb dX7_house_79 rfl (lv_at hl 1 rfl) ?_
        have hk23 := (show kd 49 = 6 from rfl)
        refine xg7 F hG ha0 7 (by decide) (kw696 F.kd) (v := .ref (g 49)) rfl dX7_house_80 ?_
        have hk24 := kt_s1 hk23
        refine xg6N F hG hk23 1 (by decide) (kw643 F.kd) (v := .ref (g (49 + 1))) rfl dX7_house_83 ?_
        refine lv_iload_n hx hb dX7_house_86 rfl (lv_at hl 0 rfl) ?_
        obtain ⟨hi25, h⟩ := chk_e h
        refine r_ald F hG hk24 hi25 dX7_house_87 ?_
        refine lv_iconst (v := (-1)) hx hb dX7_house_88 (by decide) ?_
        refine lv_icmp_ne (tgt := 96) hx hb dX7_house_89 (by decide) (fun c26 => ?_) (fun c26 => ?_)
        · have h := ite_f h c26
          refine lv_iconst (v := (-1)) hx hb dX7_house_96 (by decide) ?_
          obtain ⟨hi27, h⟩ := chk_e h
          obtain ⟨M28, eM28, h⟩ := mlet_e h
          refine r_ast F hG hk22 hi27 eM28 dX7_house_97 (fun H locs hG => ?_)
          refine lv_aload_n hx hb dX7_house_98 rfl (lv_at hl 1 rfl) ?_
          have hk29 := (show kd 49 = 6 from rfl)
          refine xg7 F hG ha0 7 (by decide) (kw696 F.kd) (v := .ref (g 49)) rfl dX7_house_99 ?_
          have hk30 := kt_s1 hk29
          refine xg6N F hG hk29 1 (by decide) (kw643 F.kd) (v := .ref (g (49 + 1))) rfl dX7_house_102 ?_
          refine lv_iload_n hx hb dX7_house_105 rfl (lv_at hl 0 rfl) ?_
          obtain ⟨hi31, h⟩ := chk_e h
          refine r_ald F hG hk30 hi31 dX7_house_106 ?_
          refine lv_iconst (v := (-1)) hx hb dX7_house_107 (by decide) ?_
          refine lv_icmp_ne (tgt := 115) hx hb dX7_house_108 (by decide) (fun c32 => ?_) (fun c32 => ?_)
          · have h := ite_f h c32
            refine lv_iconst (v := 0) hx hb dX7_house_115 (by decide) ?_
            obtain ⟨rfl, rfl⟩ := som2 h
            exact end_z F hr hlk (by decide) hG dX7_house_116
          · have h := ite_t h c32
            refine lv_iconst (v := 1) hx hb dX7_house_111 (by decide) ?_
            refine lv_goto (tgt := 116) hx hb dX7_house_112 (by decide) ?_
            obtain ⟨rfl, rfl⟩ := som2 h
            exact end_z F hr hlk (by decide) hG dX7_house_116
        · have h := ite_t h c26
          refine lv_iconst (v := 0) hx hb dX7_house_92 (by decide) ?_
          refine lv_goto (tgt := 97) hx hb dX7_house_93 (by decide) ?_
          obtain ⟨hi33, h⟩ := chk_e h
          obtain ⟨M34, eM34, h⟩ := mlet_e h
          refine r_ast F hG hk22 hi33 eM34 dX7_house_97 (fun H locs hG => ?_)
          refine lv_aload_n hx hb dX7_house_98 rfl (lv_at hl 1 rfl) ?_
          have hk35 := (show kd 49 = 6 from rfl)
          refine xg7 F hG ha0 7 (by decide) (kw696 F.kd) (v := .ref (g 49)) rfl dX7_house_99 ?_
          have hk36 := kt_s1 hk35
          refine xg6N F hG hk35 1 (by decide) (kw643 F.kd) (v := .ref (g (49 + 1))) rfl dX7_house_102 ?_
          refine lv_iload_n hx hb dX7_house_105 rfl (lv_at hl 0 rfl) ?_
          obtain ⟨hi37, h⟩ := chk_e h
          refine r_ald F hG hk36 hi37 dX7_house_106 ?_
          refine lv_iconst (v := (-1)) hx hb dX7_house_107 (by decide) ?_
          refine lv_icmp_ne (tgt := 115) hx hb dX7_house_108 (by decide) (fun c38 => ?_) (fun c38 => ?_)
          · have h := ite_f h c38
            refine lv_iconst (v := 0) hx hb dX7_house_115 (by decide) ?_
            obtain ⟨rfl, rfl⟩ := som2 h
            exact end_z F hr hlk (by decide) hG dX7_house_116
          · have h := ite_t h c38
            refine lv_iconst (v := 1) hx hb dX7_house_111 (by decide) ?_
            refine lv_goto (tgt := 116) hx hb dX7_house_112 (by decide) ?_
            obtain ⟨rfl, rfl⟩ := som2 h
            exact end_z F hr hlk (by decide) hG dX7_house_116
      · have h := ite_f h c20
        refine lv_aload_n hx hb dX7_house_57 rfl (lv_at hl 1 rfl) ?_
        refine lv_iconst (v := 2) hx hb dX7_house_58 (by decide) ?_
        obtain ⟨M41, r40, hc39, h⟩ := cb2_e h
        refine k_i (r_runV F hG (c_X7_no l D ca g ha0 hc39) (kd_lt ha0 (by decide)) (gd7 ha0) rfl (kw731 F.kd) (kw733 F.kd) (ks_X7_no F.kd) (kw7 F.kd) (kw734 F.kd) yd_X7_no ⟨Nat.le_of_ble_eq_true rfl, Nat.le_of_ble_eq_true rfl⟩ rfl hl.1 rfl (Nat.le_of_ble_eq_true rfl) dX7_house_59 ⟨Nat.le_of_ble_eq_true rfl, Nat.le_of_ble_eq_true rfl⟩) hG (fun H locs hG => ?_)
        refine lv_if_eq (tgt := 69) hx hb dX7_house_62 (by decide) (fun c42 => ?_) (fun c42 => ?_)
        · have h := ite_t h c42
          refine lv_iconst (v := 0) hx hb dX7_house_69 (by decide) ?_
          obtain ⟨rfl, rfl⟩ := som2 h
          exact end_z F hr hlk (by decide) hG dX7_house_70
        · have h := ite_f h c42
          refine lv_iconst (v := 1) hx hb dX7_house_65 (by decide) ?_
          refine lv_goto (tgt := 70) hx hb dX7_house_66 (by decide) ?_
          obtain ⟨rfl, rfl⟩ := som2 h
          exact end_z F hr hlk (by decide) hG dX7_house_70
  · have h := ite_t h c7
    refine lv_aload_n hx hb dX7_house_13 rfl (lv_at hl 0 rfl) ?_
    refine lv_iconst (v := 1) hx hb dX7_house_14 (by decide) ?_
    obtain ⟨M45, r44, hc43, h⟩ := cb2_e h
    refine k_i (r_runV F hG (c_X7_no l D ca g ha0 hc43) (kd_lt ha0 (by decide)) (gd7 ha0) rfl (kw731 F.kd) (kw733 F.kd) (ks_X7_no F.kd) (kw7 F.kd) (kw734 F.kd) yd_X7_no ⟨Nat.le_of_ble_eq_true rfl, Nat.le_of_ble_eq_true rfl⟩ rfl hl.1 rfl (Nat.le_of_ble_eq_true rfl) dX7_house_15 ⟨Nat.le_of_ble_eq_true rfl, Nat.le_of_ble_eq_true rfl⟩) hG (fun H locs hG => ?_)
    refine lv_if_eq (tgt := 25) hx hb dX7_house_18 (by decide) (fun c46 => ?_) (fun c46 => ?_)
    · have h := ite_t h c46
      refine lv_iconst (v := 0) hx hb dX7_house_25 (by decide) ?_
      obtain ⟨rfl, rfl⟩ := som2 h
      exact end_z F hr hlk (by decide) hG dX7_house_26
    · have h := ite_f h c46
      refine lv_iconst (v := 1) hx hb dX7_house_21 (by decide) ?_
      refine lv_goto (tgt := 26) hx hb dX7_house_22 (by decide) ?_
      obtain ⟨rfl, rfl⟩ := som2 h
      exact end_z F hr hlk (by decide) hG dX7_house_26
set_option maxHeartbeats 4000000 in
set_option maxRecDepth 100000 in
theorem c_X7_block (l : Launch) (D : va_G) (ca : vCA) (g : Nat → Nat) {fu : Nat} {M : Mem} {a0 : Nat} {x1 : Int32} {x2 : Int32} {x3 : Int32} {M' : Mem} {r : Int32} (ha0 : kd a0 = 7) (h : m_X7_block fu M a0 x1 x2 x3 = some (M', r)) : cM l yX7_block cX7_block 6 (some .int) { frames := 2, cells := 0, slots := 0, locals := 43 } D ca g M [.ref (g a0), .int x1, .int x2, .int x3] (fun sz => cQi D ca g sz M' r) := by
  refine mk_Met (by decide) (Nat.le_of_ble_eq_true rfl) ?_
  intro p e s m below meth c F hr hlk hnm hG ls hl
  have hx := F.1
  have hb := F.2.1
  replace hl : lv_has ls 6 [(0, .ref (g a0)), (1, .int x1), (2, .int x2), (3, .int x3)] := hl
  unfold m_X7_block at h
  refine lv_aload_n hx hb dX7_block_0 rfl (lv_at hl 0 rfl) ?_
  refine lv_iconst (v := 0) hx hb dX7_block_1 (by decide) ?_
  obtain ⟨M5, eM5, h⟩ := mlet_e h
  refine xp7 F hG ha0 eM5 rfl (by decide) (kw684 F.kd) rfl rfl rfl dX7_block_2 (fun H locs hG => ?_)
  refine lv_iload_n hx hb dX7_block_5 rfl (lv_at hl 1 rfl) ?_
  refine lv_iload_n hx hb dX7_block_6 rfl (lv_at hl 2 rfl) ?_
  obtain ⟨r7, hc6, h⟩ := cb1_e h
  refine k_i (r_runS F hG (c_X7_isCell l D ca g hc6) (kw725 F.kd) (kw726 F.kd) (kw7 F.kd) (kw727 F.kd) yd_X7_isCell ⟨Nat.le_of_ble_eq_true rfl, Nat.le_of_ble_eq_true rfl⟩ rfl hl.1 rfl (Nat.le_of_ble_eq_true rfl) dX7_block_7 ⟨Nat.le_of_ble_eq_true rfl, Nat.le_of_ble_eq_true rfl⟩) hG (fun H locs hG => ?_)
  refine lv_if_ne (tgt := 19) hx hb dX7_block_10 (by decide) (fun c8 => ?_) (fun c8 => ?_)
  · have h := ite_f h c8
    refine lv_iload_n hx hb dX7_block_19 rfl (lv_at hl 3 rfl) ?_
    refine lv_iconst (v := 0) hx hb dX7_block_20 (by decide) ?_
    refine lv_iconst (v := 3) hx hb dX7_block_21 (by decide) ?_
    obtain ⟨r10, hc9, h⟩ := cb1_e h
    refine k_i (r_runS F hG (c_X7_isIn l D ca g hc9) (kw728 F.kd) (kw729 F.kd) (kw7 F.kd) (kw730 F.kd) yd_X7_isIn ⟨Nat.le_of_ble_eq_true rfl, Nat.le_of_ble_eq_true rfl⟩ rfl hl.1 rfl (Nat.le_of_ble_eq_true rfl) dX7_block_22 ⟨Nat.le_of_ble_eq_true rfl, Nat.le_of_ble_eq_true rfl⟩) hG (fun H locs hG => ?_)
    refine lv_if_ne (tgt := 34) hx hb dX7_block_25 (by decide) (fun c11 => ?_) (fun c11 => ?_)
    · have h := ite_f h c11
      refine lv_bipush (v := 12) hx hb dX7_block_34 (by decide) ?_
      refine lv_iload_n hx hb dX7_block_36 rfl (lv_at hl 2 rfl) ?_
      refine lv_imul hx hb dX7_block_37 ?_
      refine lv_iload_n hx hb dX7_block_38 rfl (lv_at hl 1 rfl) ?_
      refine lv_iadd hx hb dX7_block_39 ?_
      refine lv_topi (fun x12 ex12 => ?_)
      have h := mlet_n h ex12
      refine lv_istore (lv' := [(4, .int x12), (0, .ref (g a0)), (1, .int x1), (2, .int x2), (3, .int x3)]) hx hb dX7_block_40 hl (by decide) rfl (fun ls hl => ?_)
      refine lv_aload_n hx hb dX7_block_42 rfl (lv_at hl 1 rfl) ?_
      have hk13 := (show kd 49 = 6 from rfl)
      refine xg7 F hG ha0 7 (by decide) (kw696 F.kd) (v := .ref (g 49)) rfl dX7_block_43 ?_
      have hk14 := kt_s1 hk13
      refine xg6N F hG hk13 1 (by decide) (kw643 F.kd) (v := .ref (g (49 + 1))) rfl dX7_block_46 ?_
      refine lv_iload hx hb dX7_block_49 (lv_at hl 0 rfl) ?_
      obtain ⟨hi15, h⟩ := chk_e h
      refine r_ald F hG hk14 hi15 dX7_block_51 ?_
      refine lv_iconst (v := (-1)) hx hb dX7_block_52 (by decide) ?_
      refine lv_icmp_eq (tgt := 68) hx hb dX7_block_53 (by decide) (fun c16 => ?_) (fun c16 => ?_)
      · have h := ite_t h c16
        refine lv_aload_n hx hb dX7_block_68 rfl (lv_at hl 1 rfl) ?_
        refine lv_iconst (v := 3) hx hb dX7_block_69 (by decide) ?_
        obtain ⟨M19, r18, hc17, h⟩ := cb2_e h
        refine k_i (r_runV F hG (c_X7_no l D ca g ha0 hc17) (kd_lt ha0 (by decide)) (gd7 ha0) rfl (kw731 F.kd) (kw733 F.kd) (ks_X7_no F.kd) (kw7 F.kd) (kw734 F.kd) yd_X7_no ⟨Nat.le_of_ble_eq_true rfl, Nat.le_of_ble_eq_true rfl⟩ rfl hl.1 rfl (Nat.le_of_ble_eq_true rfl) dX7_block_70 ⟨Nat.le_of_ble_eq_true rfl, Nat.le_of_ble_eq_true rfl⟩) hG (fun H locs hG => ?_)
        obtain ⟨rfl, rfl⟩ := som2 h
        exact end_i F hr hlk hG dX7_block_73
      · have h := ite_f h c16
        refine lv_aload_n hx hb dX7_block_56 rfl (lv_at hl 1 rfl) ?_
        have hk20 := (show kd 49 = 6 from rfl)
        refine xg7 F hG ha0 7 (by decide) (kw696 F.kd) (v := .ref (g 49)) rfl dX7_block_57 ?_
        refine lv_iload hx hb dX7_block_60 (lv_at hl 0 rfl) ?_
        obtain ⟨r22, hc21, h⟩ := cb1_e h
        refine k_i (r_runV F hG (c_X6_isBusy l D ca g hk20 hc21) (kd_lt hk20 (by decide)) (gd6 hk20) rfl (kw735 F.kd) (kw736 F.kd) (kw737 F.kd) (kw8 F.kd) (kw738 F.kd) yd_X6_isBusy ⟨Nat.le_of_ble_eq_true rfl, Nat.le_of_ble_eq_true rfl⟩ rfl hl.1 rfl (Nat.le_of_ble_eq_true rfl) dX7_block_62 ⟨Nat.le_of_ble_eq_true rfl, Nat.le_of_ble_eq_true rfl⟩) hG (fun H locs hG => ?_)
        refine lv_if_eq (tgt := 74) hx hb dX7_block_65 (by decide) (fun c23 => ?_) (fun c23 => ?_)
        · have h := ite_t h c23
          refine lv_aload_n hx hb dX7_block_74 rfl (lv_at hl 1 rfl) ?_
          have hk24 := (show kd 49 = 6 from rfl)
          refine xg7 F hG ha0 7 (by decide) (kw696 F.kd) (v := .ref (g 49)) rfl dX7_block_75 ?_
          have hk25 := kt_s1 hk24
          refine xg6N F hG hk24 1 (by decide) (kw643 F.kd) (v := .ref (g (49 + 1))) rfl dX7_block_78 ?_
          refine lv_iload hx hb dX7_block_81 (lv_at hl 0 rfl) ?_
          obtain ⟨hi26, h⟩ := chk_e h
          refine r_ald F hG hk25 hi26 dX7_block_83 ?_
          refine lv_topi (fun x27 ex27 => ?_)
          have h := mlet_n h ex27
          refine lv_istore (lv' := [(5, .int x27), (4, .int x12), (0, .ref (g a0)), (1, .int x1), (2, .int x2), (3, .int x3)]) hx hb dX7_block_84 hl (by decide) rfl (fun ls hl => ?_)
          refine lv_aload_n hx hb dX7_block_86 rfl (lv_at hl 2 rfl) ?_
          have hk28 := (show kd 49 = 6 from rfl)
          refine xg7 F hG ha0 7 (by decide) (kw696 F.kd) (v := .ref (g 49)) rfl dX7_block_87 ?_
          have hk29 := kt_s1 hk28
          refine xg6N F hG hk28 1 (by decide) (kw643 F.kd) (v := .ref (g (49 + 1))) rfl dX7_block_90 ?_
          refine lv_iload hx hb dX7_block_93 (lv_at hl 1 rfl) ?_
          refine lv_iload_n hx hb dX7_block_95 rfl (lv_at hl 5 rfl) ?_
          obtain ⟨hi30, h⟩ := chk_e h
          obtain ⟨M31, eM31, h⟩ := mlet_e h
          refine r_ast F hG hk29 hi30 eM31 dX7_block_96 (fun H locs hG => ?_)
          refine lv_iload hx hb dX7_block_97 (lv_at hl 0 rfl) ?_
          obtain ⟨rfl, rfl⟩ := som2 h
          exact end_i F hr hlk hG dX7_block_99
        · have h := ite_f h c23
          refine lv_aload_n hx hb dX7_block_68 rfl (lv_at hl 1 rfl) ?_
          refine lv_iconst (v := 3) hx hb dX7_block_69 (by decide) ?_
          obtain ⟨M34, r33, hc32, h⟩ := cb2_e h
          refine k_i (r_runV F hG (c_X7_no l D ca g ha0 hc32) (kd_lt ha0 (by decide)) (gd7 ha0) rfl (kw731 F.kd) (kw733 F.kd) (ks_X7_no F.kd) (kw7 F.kd) (kw734 F.kd) yd_X7_no ⟨Nat.le_of_ble_eq_true rfl, Nat.le_of_ble_eq_true rfl⟩ rfl hl.1 rfl (Nat.le_of_ble_eq_true rfl) dX7_block_70 ⟨Nat.le_of_ble_eq_true rfl, Nat.le_of_ble_eq_true rfl⟩) hG (fun H locs hG => ?_)
          obtain ⟨rfl, rfl⟩ := som2 h
          exact end_i F hr hlk hG dX7_block_73
    · have h := ite_t h c11
      refine lv_aload_n hx hb dX7_block_28 rfl (lv_at hl 0 rfl) ?_
      refine lv_iconst (v := 2) hx hb dX7_block_29 (by decide) ?_
      obtain ⟨M37, r36, hc35, h⟩ := cb2_e h
      refine k_i (r_runV F hG (c_X7_no l D ca g ha0 hc35) (kd_lt ha0 (by decide)) (gd7 ha0) rfl (kw731 F.kd) (kw733 F.kd) (ks_X7_no F.kd) (kw7 F.kd) (kw734 F.kd) yd_X7_no ⟨Nat.le_of_ble_eq_true rfl, Nat.le_of_ble_eq_true rfl⟩ rfl hl.1 rfl (Nat.le_of_ble_eq_true rfl) dX7_block_30 ⟨Nat.le_of_ble_eq_true rfl, Nat.le_of_ble_eq_true rfl⟩) hG (fun H locs hG => ?_)
      obtain ⟨rfl, rfl⟩ := som2 h
      exact end_i F hr hlk hG dX7_block_33
  · have h := ite_t h c8
    refine lv_aload_n hx hb dX7_block_13 rfl (lv_at hl 0 rfl) ?_
    refine lv_iconst (v := 1) hx hb dX7_block_14 (by decide) ?_
    obtain ⟨M40, r39, hc38, h⟩ := cb2_e h
    refine k_i (r_runV F hG (c_X7_no l D ca g ha0 hc38) (kd_lt ha0 (by decide)) (gd7 ha0) rfl (kw731 F.kd) (kw733 F.kd) (ks_X7_no F.kd) (kw7 F.kd) (kw734 F.kd) yd_X7_no ⟨Nat.le_of_ble_eq_true rfl, Nat.le_of_ble_eq_true rfl⟩ rfl hl.1 rfl (Nat.le_of_ble_eq_true rfl) dX7_block_15 ⟨Nat.le_of_ble_eq_true rfl, Nat.le_of_ble_eq_true rfl⟩) hG (fun H locs hG => ?_)
    obtain ⟨rfl, rfl⟩ := som2 h
    exact end_i F hr hlk hG dX7_block_18
set_option maxHeartbeats 4000000 in
set_option maxRecDepth 100000 in
theorem c_X7_cell (l : Launch) (D : va_G) (ca : vCA) (g : Nat → Nat) {fu : Nat} {M : Mem} {a0 : Nat} {x1 : Int32} {x2 : Int32} {M' : Mem} {r : Int32} (ha0 : kd a0 = 7) (h : m_X7_cell fu M a0 x1 x2 = some (M', r)) : cM l yX7_cell cX7_cell 3 (some .int) { frames := 2, cells := 0, slots := 0, locals := 43 } D ca g M [.ref (g a0), .int x1, .int x2] (fun sz => cQi D ca g sz M' r) := by
  refine mk_Met (by decide) (Nat.le_of_ble_eq_true rfl) ?_
  intro p e s m below meth c F hr hlk hnm hG ls hl
  have hx := F.1
  have hb := F.2.1
  replace hl : lv_has ls 3 [(0, .ref (g a0)), (1, .int x1), (2, .int x2)] := hl
  unfold m_X7_cell at h
  refine lv_aload_n hx hb dX7_cell_0 rfl (lv_at hl 0 rfl) ?_
  refine lv_iconst (v := 0) hx hb dX7_cell_1 (by decide) ?_
  obtain ⟨M4, eM4, h⟩ := mlet_e h
  refine xp7 F hG ha0 eM4 rfl (by decide) (kw684 F.kd) rfl rfl rfl dX7_cell_2 (fun H locs hG => ?_)
  refine lv_iload_n hx hb dX7_cell_5 rfl (lv_at hl 1 rfl) ?_
  refine lv_iload_n hx hb dX7_cell_6 rfl (lv_at hl 2 rfl) ?_
  obtain ⟨r6, hc5, h⟩ := cb1_e h
  refine k_i (r_runS F hG (c_X7_isCell l D ca g hc5) (kw725 F.kd) (kw726 F.kd) (kw7 F.kd) (kw727 F.kd) yd_X7_isCell ⟨Nat.le_of_ble_eq_true rfl, Nat.le_of_ble_eq_true rfl⟩ rfl hl.1 rfl (Nat.le_of_ble_eq_true rfl) dX7_cell_7 ⟨Nat.le_of_ble_eq_true rfl, Nat.le_of_ble_eq_true rfl⟩) hG (fun H locs hG => ?_)
  refine lv_if_eq (tgt := 30) hx hb dX7_cell_10 (by decide) (fun c7 => ?_) (fun c7 => ?_)
  · have h := ite_t h c7
    refine lv_aload_n hx hb dX7_cell_30 rfl (lv_at hl 0 rfl) ?_
    refine lv_iconst (v := 1) hx hb dX7_cell_31 (by decide) ?_
    obtain ⟨M10, r9, hc8, h⟩ := cb2_e h
    refine k_i (r_runV F hG (c_X7_no l D ca g ha0 hc8) (kd_lt ha0 (by decide)) (gd7 ha0) rfl (kw731 F.kd) (kw733 F.kd) (ks_X7_no F.kd) (kw7 F.kd) (kw734 F.kd) yd_X7_no ⟨Nat.le_of_ble_eq_true rfl, Nat.le_of_ble_eq_true rfl⟩ rfl hl.1 rfl (Nat.le_of_ble_eq_true rfl) dX7_cell_32 ⟨Nat.le_of_ble_eq_true rfl, Nat.le_of_ble_eq_true rfl⟩) hG (fun H locs hG => ?_)
    obtain ⟨rfl, rfl⟩ := som2 h
    exact end_i F hr hlk hG dX7_cell_35
  · have h := ite_f h c7
    refine lv_aload_n hx hb dX7_cell_13 rfl (lv_at hl 0 rfl) ?_
    have hk11 := (show kd 49 = 6 from rfl)
    refine xg7 F hG ha0 7 (by decide) (kw696 F.kd) (v := .ref (g 49)) rfl dX7_cell_14 ?_
    have hk12 := kt_s1 hk11
    refine xg6N F hG hk11 1 (by decide) (kw643 F.kd) (v := .ref (g (49 + 1))) rfl dX7_cell_17 ?_
    refine lv_bipush (v := 12) hx hb dX7_cell_20 (by decide) ?_
    refine lv_iload_n hx hb dX7_cell_22 rfl (lv_at hl 2 rfl) ?_
    refine lv_imul hx hb dX7_cell_23 ?_
    refine lv_iload_n hx hb dX7_cell_24 rfl (lv_at hl 1 rfl) ?_
    refine lv_iadd hx hb dX7_cell_25 ?_
    obtain ⟨hi13, h⟩ := chk_e h
    refine r_ald F hG hk12 hi13 dX7_cell_26 ?_
    refine lv_goto (tgt := 35) hx hb dX7_cell_27 (by decide) ?_
    obtain ⟨rfl, rfl⟩ := som2 h
    exact end_i F hr hlk hG dX7_cell_35
set_option maxHeartbeats 4000000 in
set_option maxRecDepth 100000 in
theorem c_X7_gather (l : Launch) (D : va_G) (ca : vCA) (g : Nat → Nat) {fu : Nat} {M : Mem} {a0 : Nat} {x1 : Int32} {x2 : Int32} {x3 : Int32} {M' : Mem} {r : Int32} (ha0 : kd a0 = 7) (h : m_X7_gather fu M a0 x1 x2 x3 = some (M', r)) : cM l yX7_gather cX7_gather 4 (some .int) { frames := 2, cells := 0, slots := 0, locals := 43 } D ca g M [.ref (g a0), .int x1, .int x2, .int x3] (fun sz => cQi D ca g sz M' r) := by
  refine mk_Met (by decide) (Nat.le_of_ble_eq_true rfl) ?_
  intro p e s m below meth c F hr hlk hnm hG ls hl
  have hx := F.1
  have hb := F.2.1
  replace hl : lv_has ls 4 [(0, .ref (g a0)), (1, .int x1), (2, .int x2), (3, .int x3)] := hl
  unfold m_X7_gather at h
  refine lv_aload_n hx hb dX7_gather_0 rfl (lv_at hl 0 rfl) ?_
  refine lv_iconst (v := 0) hx hb dX7_gather_1 (by decide) ?_
  obtain ⟨M5, eM5, h⟩ := mlet_e h
  refine xp7 F hG ha0 eM5 rfl (by decide) (kw684 F.kd) rfl rfl rfl dX7_gather_2 (fun H locs hG => ?_)
  refine lv_iload_n hx hb dX7_gather_5 rfl (lv_at hl 1 rfl) ?_
  refine lv_iload_n hx hb dX7_gather_6 rfl (lv_at hl 2 rfl) ?_
  obtain ⟨r7, hc6, h⟩ := cb1_e h
  refine k_i (r_runS F hG (c_X7_isCell l D ca g hc6) (kw725 F.kd) (kw726 F.kd) (kw7 F.kd) (kw727 F.kd) yd_X7_isCell ⟨Nat.le_of_ble_eq_true rfl, Nat.le_of_ble_eq_true rfl⟩ rfl hl.1 rfl (Nat.le_of_ble_eq_true rfl) dX7_gather_7 ⟨Nat.le_of_ble_eq_true rfl, Nat.le_of_ble_eq_true rfl⟩) hG (fun H locs hG => ?_)
  refine lv_if_ne (tgt := 19) hx hb dX7_gather_10 (by decide) (fun c8 => ?_) (fun c8 => ?_)
  · have h := ite_f h c8
    refine lv_iload_n hx hb dX7_gather_19 rfl (lv_at hl 3 rfl) ?_
    refine lv_iconst (v := 1) hx hb dX7_gather_20 (by decide) ?_
    refine lv_bipush (v := 9) hx hb dX7_gather_21 (by decide) ?_
    obtain ⟨r10, hc9, h⟩ := cb1_e h
    refine k_i (r_runS F hG (c_X7_isIn l D ca g hc9) (kw728 F.kd) (kw729 F.kd) (kw7 F.kd) (kw730 F.kd) yd_X7_isIn ⟨Nat.le_of_ble_eq_true rfl, Nat.le_of_ble_eq_true rfl⟩ rfl hl.1 rfl (Nat.le_of_ble_eq_true rfl) dX7_gather_23 ⟨Nat.le_of_ble_eq_true rfl, Nat.le_of_ble_eq_true rfl⟩) hG (fun H locs hG => ?_)
    refine lv_if_ne (tgt := 35) hx hb dX7_gather_26 (by decide) (fun c11 => ?_) (fun c11 => ?_)
    · have h := ite_f h c11
      refine lv_aload_n hx hb dX7_gather_35 rfl (lv_at hl 0 rfl) ?_
      refine xg7 F hG ha0 1 (by decide) (kw686 F.kd) (v := .int (M5 a0 1)) rfl dX7_gather_36 ?_
      refine lv_bipush (v := 6) hx hb dX7_gather_39 (by decide) ?_
      refine lv_icmp_eq (tgt := 61) hx hb dX7_gather_41 (by decide) (fun c12 => ?_) (fun c12 => ?_)
      · have h := ite_t h c12
        refine lv_aload_n hx hb dX7_gather_61 rfl (lv_at hl 0 rfl) ?_
        refine lv_iconst (v := 3) hx hb dX7_gather_62 (by decide) ?_
        obtain ⟨M15, r14, hc13, h⟩ := cb2_e h
        refine k_i (r_runV F hG (c_X7_no l D ca g ha0 hc13) (kd_lt ha0 (by decide)) (gd7 ha0) rfl (kw731 F.kd) (kw733 F.kd) (ks_X7_no F.kd) (kw7 F.kd) (kw734 F.kd) yd_X7_no ⟨Nat.le_of_ble_eq_true rfl, Nat.le_of_ble_eq_true rfl⟩ rfl hl.1 rfl (Nat.le_of_ble_eq_true rfl) dX7_gather_63 ⟨Nat.le_of_ble_eq_true rfl, Nat.le_of_ble_eq_true rfl⟩) hG (fun H locs hG => ?_)
        obtain ⟨rfl, rfl⟩ := som2 h
        exact end_i F hr hlk hG dX7_gather_66
      · have h := ite_f h c12
        refine lv_aload_n hx hb dX7_gather_44 rfl (lv_at hl 0 rfl) ?_
        have hk16 := (show kd 49 = 6 from rfl)
        refine xg7 F hG ha0 7 (by decide) (kw696 F.kd) (v := .ref (g 49)) rfl dX7_gather_45 ?_
        have hk17 := kt_s1 hk16
        refine xg6N F hG hk16 1 (by decide) (kw643 F.kd) (v := .ref (g (49 + 1))) rfl dX7_gather_48 ?_
        refine lv_bipush (v := 12) hx hb dX7_gather_51 (by decide) ?_
        refine lv_iload_n hx hb dX7_gather_53 rfl (lv_at hl 2 rfl) ?_
        refine lv_imul hx hb dX7_gather_54 ?_
        refine lv_iload_n hx hb dX7_gather_55 rfl (lv_at hl 1 rfl) ?_
        refine lv_iadd hx hb dX7_gather_56 ?_
        obtain ⟨hi18, h⟩ := chk_e h
        refine r_ald F hG hk17 hi18 dX7_gather_57 ?_
        refine lv_if_eq (tgt := 67) hx hb dX7_gather_58 (by decide) (fun c19 => ?_) (fun c19 => ?_)
        · have h := ite_t h c19
          refine lv_aload_n hx hb dX7_gather_67 rfl (lv_at hl 0 rfl) ?_
          have hk20 := (show kd 49 = 6 from rfl)
          refine xg7 F hG ha0 7 (by decide) (kw696 F.kd) (v := .ref (g 49)) rfl dX7_gather_68 ?_
          have hk21 := kt_s2 hk20
          refine xg6N F hG hk20 2 (by decide) (kw645 F.kd) (v := .ref (g (49 + 2))) rfl dX7_gather_71 ?_
          refine lv_aload_n hx hb dX7_gather_74 rfl (lv_at hl 0 rfl) ?_
          refine xg7 F hG ha0 1 (by decide) (kw686 F.kd) (v := .int (M5 a0 1)) rfl dX7_gather_75 ?_
          refine lv_bipush (v := 12) hx hb dX7_gather_78 (by decide) ?_
          refine lv_iload_n hx hb dX7_gather_80 rfl (lv_at hl 2 rfl) ?_
          refine lv_imul hx hb dX7_gather_81 ?_
          refine lv_iload_n hx hb dX7_gather_82 rfl (lv_at hl 1 rfl) ?_
          refine lv_iadd hx hb dX7_gather_83 ?_
          obtain ⟨hi22, h⟩ := chk_e h
          obtain ⟨M23, eM23, h⟩ := mlet_e h
          refine r_ast F hG hk21 hi22 eM23 dX7_gather_84 (fun H locs hG => ?_)
          refine lv_aload_n hx hb dX7_gather_85 rfl (lv_at hl 0 rfl) ?_
          have hk24 := (show kd 49 = 6 from rfl)
          refine xg7 F hG ha0 7 (by decide) (kw696 F.kd) (v := .ref (g 49)) rfl dX7_gather_86 ?_
          have hk25 := kt_s3 hk24
          refine xg6N F hG hk24 3 (by decide) (kw647 F.kd) (v := .ref (g (49 + 3))) rfl dX7_gather_89 ?_
          refine lv_aload_n hx hb dX7_gather_92 rfl (lv_at hl 0 rfl) ?_
          refine xg7 F hG ha0 1 (by decide) (kw686 F.kd) (v := .int (M23 a0 1)) rfl dX7_gather_93 ?_
          refine lv_iload_n hx hb dX7_gather_96 rfl (lv_at hl 3 rfl) ?_
          obtain ⟨hi26, h⟩ := chk_e h
          obtain ⟨M27, eM27, h⟩ := mlet_e h
          refine r_ast F hG hk25 hi26 eM27 dX7_gather_97 (fun H locs hG => ?_)
          refine lv_aload_n hx hb dX7_gather_98 rfl (lv_at hl 0 rfl) ?_
          have hk28 := (show kd 49 = 6 from rfl)
          refine xg7 F hG ha0 7 (by decide) (kw696 F.kd) (v := .ref (g 49)) rfl dX7_gather_99 ?_
          have hk29 := kt_s4 hk28
          refine xg6N F hG hk28 4 (by decide) (kw649 F.kd) (v := .ref (g (49 + 4))) rfl dX7_gather_102 ?_
          refine lv_aload_n hx hb dX7_gather_105 rfl (lv_at hl 0 rfl) ?_
          refine xg7 F hG ha0 1 (by decide) (kw686 F.kd) (v := .int (M27 a0 1)) rfl dX7_gather_106 ?_
          refine lv_iconst (v := 1) hx hb dX7_gather_109 (by decide) ?_
          obtain ⟨hi30, h⟩ := chk_e h
          obtain ⟨M31, eM31, h⟩ := mlet_e h
          refine r_ast F hG hk29 hi30 eM31 dX7_gather_110 (fun H locs hG => ?_)
          refine lv_aload_n hx hb dX7_gather_111 rfl (lv_at hl 0 rfl) ?_
          refine lv_dup hx hb dX7_gather_112 rfl ?_
          refine xg7 F hG ha0 1 (by decide) (kw686 F.kd) (v := .int (M31 a0 1)) rfl dX7_gather_113 ?_
          refine lv_iconst (v := 1) hx hb dX7_gather_116 (by decide) ?_
          refine lv_iadd hx hb dX7_gather_117 ?_
          obtain ⟨M32, eM32, h⟩ := mlet_e h
          refine xp7 F hG ha0 eM32 rfl (by decide) (kw686 F.kd) rfl rfl rfl dX7_gather_118 (fun H locs hG => ?_)
          refine lv_aload_n hx hb dX7_gather_121 rfl (lv_at hl 0 rfl) ?_
          refine xg7 F hG ha0 1 (by decide) (kw686 F.kd) (v := .int (M32 a0 1)) rfl dX7_gather_122 ?_
          refine lv_iconst (v := 1) hx hb dX7_gather_125 (by decide) ?_
          refine lv_isub hx hb dX7_gather_126 ?_
          obtain ⟨rfl, rfl⟩ := som2 h
          exact end_i F hr hlk hG dX7_gather_127
        · have h := ite_f h c19
          refine lv_aload_n hx hb dX7_gather_61 rfl (lv_at hl 0 rfl) ?_
          refine lv_iconst (v := 3) hx hb dX7_gather_62 (by decide) ?_
          obtain ⟨M35, r34, hc33, h⟩ := cb2_e h
          refine k_i (r_runV F hG (c_X7_no l D ca g ha0 hc33) (kd_lt ha0 (by decide)) (gd7 ha0) rfl (kw731 F.kd) (kw733 F.kd) (ks_X7_no F.kd) (kw7 F.kd) (kw734 F.kd) yd_X7_no ⟨Nat.le_of_ble_eq_true rfl, Nat.le_of_ble_eq_true rfl⟩ rfl hl.1 rfl (Nat.le_of_ble_eq_true rfl) dX7_gather_63 ⟨Nat.le_of_ble_eq_true rfl, Nat.le_of_ble_eq_true rfl⟩) hG (fun H locs hG => ?_)
          obtain ⟨rfl, rfl⟩ := som2 h
          exact end_i F hr hlk hG dX7_gather_66
    · have h := ite_t h c11
      refine lv_aload_n hx hb dX7_gather_29 rfl (lv_at hl 0 rfl) ?_
      refine lv_iconst (v := 2) hx hb dX7_gather_30 (by decide) ?_
      obtain ⟨M38, r37, hc36, h⟩ := cb2_e h
      refine k_i (r_runV F hG (c_X7_no l D ca g ha0 hc36) (kd_lt ha0 (by decide)) (gd7 ha0) rfl (kw731 F.kd) (kw733 F.kd) (ks_X7_no F.kd) (kw7 F.kd) (kw734 F.kd) yd_X7_no ⟨Nat.le_of_ble_eq_true rfl, Nat.le_of_ble_eq_true rfl⟩ rfl hl.1 rfl (Nat.le_of_ble_eq_true rfl) dX7_gather_31 ⟨Nat.le_of_ble_eq_true rfl, Nat.le_of_ble_eq_true rfl⟩) hG (fun H locs hG => ?_)
      obtain ⟨rfl, rfl⟩ := som2 h
      exact end_i F hr hlk hG dX7_gather_34
  · have h := ite_t h c8
    refine lv_aload_n hx hb dX7_gather_13 rfl (lv_at hl 0 rfl) ?_
    refine lv_iconst (v := 1) hx hb dX7_gather_14 (by decide) ?_
    obtain ⟨M41, r40, hc39, h⟩ := cb2_e h
    refine k_i (r_runV F hG (c_X7_no l D ca g ha0 hc39) (kd_lt ha0 (by decide)) (gd7 ha0) rfl (kw731 F.kd) (kw733 F.kd) (ks_X7_no F.kd) (kw7 F.kd) (kw734 F.kd) yd_X7_no ⟨Nat.le_of_ble_eq_true rfl, Nat.le_of_ble_eq_true rfl⟩ rfl hl.1 rfl (Nat.le_of_ble_eq_true rfl) dX7_gather_15 ⟨Nat.le_of_ble_eq_true rfl, Nat.le_of_ble_eq_true rfl⟩) hG (fun H locs hG => ?_)
    obtain ⟨rfl, rfl⟩ := som2 h
    exact end_i F hr hlk hG dX7_gather_18
set_option maxHeartbeats 4000000 in
set_option maxRecDepth 100000 in
theorem c_X7_order (l : Launch) (D : va_G) (ca : vCA) (g : Nat → Nat) {fu : Nat} {M : Mem} {a0 : Nat} {x1 : Int32} {x2 : Int32} {M' : Mem} {r : Int32} (ha0 : kd a0 = 7) (h : m_X7_order fu M a0 x1 x2 = some (M', r)) : cM l yX7_order cX7_order 3 (some .int) { frames := 2, cells := 0, slots := 0, locals := 43 } D ca g M [.ref (g a0), .int x1, .int x2] (fun sz => cQi D ca g sz M' r) := by
  refine mk_Met (by decide) (Nat.le_of_ble_eq_true rfl) ?_
  intro p e s m below meth c F hr hlk hnm hG ls hl
  have hx := F.1
  have hb := F.2.1
  replace hl : lv_has ls 3 [(0, .ref (g a0)), (1, .int x1), (2, .int x2)] := hl
  unfold m_X7_order at h
  refine lv_aload_n hx hb dX7_order_0 rfl (lv_at hl 0 rfl) ?_
  refine lv_iconst (v := 0) hx hb dX7_order_1 (by decide) ?_
  obtain ⟨M4, eM4, h⟩ := mlet_e h
  refine xp7 F hG ha0 eM4 rfl (by decide) (kw684 F.kd) rfl rfl rfl dX7_order_2 (fun H locs hG => ?_)
  refine lv_aload_n hx hb dX7_order_5 rfl (lv_at hl 0 rfl) ?_
  refine lv_iload_n hx hb dX7_order_6 rfl (lv_at hl 1 rfl) ?_
  obtain ⟨r6, hc5, h⟩ := cb1_e h
  refine k_i (r_runV F hG (c_X7_isCrowd l D ca g ha0 hc5) (kd_lt ha0 (by decide)) (gd7 ha0) rfl (kw755 F.kd) (kw757 F.kd) (ks_X7_isCrowd F.kd) (kw7 F.kd) (kw758 F.kd) yd_X7_isCrowd ⟨Nat.le_of_ble_eq_true rfl, Nat.le_of_ble_eq_true rfl⟩ rfl hl.1 rfl (Nat.le_of_ble_eq_true rfl) dX7_order_7 ⟨Nat.le_of_ble_eq_true rfl, Nat.le_of_ble_eq_true rfl⟩) hG (fun H locs hG => ?_)
  refine lv_if_ne (tgt := 19) hx hb dX7_order_10 (by decide) (fun c7 => ?_) (fun c7 => ?_)
  · have h := ite_f h c7
    refine lv_iload_n hx hb dX7_order_19 rfl (lv_at hl 2 rfl) ?_
    refine lv_iconst (v := 0) hx hb dX7_order_20 (by decide) ?_
    refine lv_bipush (v := 11) hx hb dX7_order_21 (by decide) ?_
    obtain ⟨r9, hc8, h⟩ := cb1_e h
    refine k_i (r_runS F hG (c_X7_isIn l D ca g hc8) (kw728 F.kd) (kw729 F.kd) (kw7 F.kd) (kw730 F.kd) yd_X7_isIn ⟨Nat.le_of_ble_eq_true rfl, Nat.le_of_ble_eq_true rfl⟩ rfl hl.1 rfl (Nat.le_of_ble_eq_true rfl) dX7_order_23 ⟨Nat.le_of_ble_eq_true rfl, Nat.le_of_ble_eq_true rfl⟩) hG (fun H locs hG => ?_)
    refine lv_if_ne (tgt := 35) hx hb dX7_order_26 (by decide) (fun c10 => ?_) (fun c10 => ?_)
    · have h := ite_f h c10
      refine lv_aload_n hx hb dX7_order_35 rfl (lv_at hl 0 rfl) ?_
      have hk11 := (show kd 49 = 6 from rfl)
      refine xg7 F hG ha0 7 (by decide) (kw696 F.kd) (v := .ref (g 49)) rfl dX7_order_36 ?_
      have hk12 := kt_s3 hk11
      refine xg6N F hG hk11 3 (by decide) (kw647 F.kd) (v := .ref (g (49 + 3))) rfl dX7_order_39 ?_
      refine lv_iload_n hx hb dX7_order_42 rfl (lv_at hl 1 rfl) ?_
      obtain ⟨hi13, h⟩ := chk_e h
      refine r_ald F hG hk12 hi13 dX7_order_43 ?_
      refine lv_if_eq (tgt := 61) hx hb dX7_order_44 (by decide) (fun c14 => ?_) (fun c14 => ?_)
      · have h := ite_t h c14
        refine lv_aload_n hx hb dX7_order_61 rfl (lv_at hl 0 rfl) ?_
        refine lv_iconst (v := 3) hx hb dX7_order_62 (by decide) ?_
        obtain ⟨M17, r16, hc15, h⟩ := cb2_e h
        refine k_i (r_runV F hG (c_X7_no l D ca g ha0 hc15) (kd_lt ha0 (by decide)) (gd7 ha0) rfl (kw731 F.kd) (kw733 F.kd) (ks_X7_no F.kd) (kw7 F.kd) (kw734 F.kd) yd_X7_no ⟨Nat.le_of_ble_eq_true rfl, Nat.le_of_ble_eq_true rfl⟩ rfl hl.1 rfl (Nat.le_of_ble_eq_true rfl) dX7_order_63 ⟨Nat.le_of_ble_eq_true rfl, Nat.le_of_ble_eq_true rfl⟩) hG (fun H locs hG => ?_)
        obtain ⟨rfl, rfl⟩ := som2 h
        exact end_i F hr hlk hG dX7_order_66
      · have h := ite_f h c14
        refine lv_aload_n hx hb dX7_order_47 rfl (lv_at hl 0 rfl) ?_
        have hk18 := (show kd 49 = 6 from rfl)
        refine xg7 F hG ha0 7 (by decide) (kw696 F.kd) (v := .ref (g 49)) rfl dX7_order_48 ?_
        have hk19 := kt_s5 hk18
        refine xg6N F hG hk18 5 (by decide) (kw651 F.kd) (v := .ref (g (49 + 5))) rfl dX7_order_51 ?_
        refine lv_iload_n hx hb dX7_order_54 rfl (lv_at hl 1 rfl) ?_
        obtain ⟨hi20, h⟩ := chk_e h
        refine r_ald F hG hk19 hi20 dX7_order_55 ?_
        refine lv_bipush (v := 24) hx hb dX7_order_56 (by decide) ?_
        refine lv_icmp_ne (tgt := 67) hx hb dX7_order_58 (by decide) (fun c21 => ?_) (fun c21 => ?_)
        · have h := ite_f h c21
          refine lv_aload_n hx hb dX7_order_67 rfl (lv_at hl 0 rfl) ?_
          have hk22 := (show kd 49 = 6 from rfl)
          refine xg7 F hG ha0 7 (by decide) (kw696 F.kd) (v := .ref (g 49)) rfl dX7_order_68 ?_
          have hk23 := kt_s6 hk22
          refine xg6N F hG hk22 6 (by decide) (kw653 F.kd) (v := .ref (g (49 + 6))) rfl dX7_order_71 ?_
          refine lv_bipush (v := 24) hx hb dX7_order_74 (by decide) ?_
          refine lv_iload_n hx hb dX7_order_76 rfl (lv_at hl 1 rfl) ?_
          refine lv_imul hx hb dX7_order_77 ?_
          refine lv_aload_n hx hb dX7_order_78 rfl (lv_at hl 0 rfl) ?_
          have hk24 := (show kd 49 = 6 from rfl)
          refine xg7 F hG ha0 7 (by decide) (kw696 F.kd) (v := .ref (g 49)) rfl dX7_order_79 ?_
          have hk25 := kt_s5 hk24
          refine xg6N F hG hk24 5 (by decide) (kw651 F.kd) (v := .ref (g (49 + 5))) rfl dX7_order_82 ?_
          refine lv_iload_n hx hb dX7_order_85 rfl (lv_at hl 1 rfl) ?_
          obtain ⟨hi26, h⟩ := chk_e h
          refine r_ald F hG hk25 hi26 dX7_order_86 ?_
          refine lv_iadd hx hb dX7_order_87 ?_
          refine lv_iload_n hx hb dX7_order_88 rfl (lv_at hl 2 rfl) ?_
          obtain ⟨hi27, h⟩ := chk_e h
          obtain ⟨M28, eM28, h⟩ := mlet_e h
          refine r_ast F hG hk23 hi27 eM28 dX7_order_89 (fun H locs hG => ?_)
          refine lv_aload_n hx hb dX7_order_90 rfl (lv_at hl 0 rfl) ?_
          have hk29 := (show kd 49 = 6 from rfl)
          refine xg7 F hG ha0 7 (by decide) (kw696 F.kd) (v := .ref (g 49)) rfl dX7_order_91 ?_
          have hk30 := kt_s5 hk29
          refine xg6N F hG hk29 5 (by decide) (kw651 F.kd) (v := .ref (g (49 + 5))) rfl dX7_order_94 ?_
          refine lv_iload_n hx hb dX7_order_97 rfl (lv_at hl 1 rfl) ?_
          refine lv_dup2_11 hx hb dX7_order_98 rfl rfl ?_
          obtain ⟨hi31, h⟩ := chk_e h
          refine r_ald F hG hk30 hi31 dX7_order_99 ?_
          refine lv_iconst (v := 1) hx hb dX7_order_100 (by decide) ?_
          refine lv_iadd hx hb dX7_order_101 ?_
          obtain ⟨hi32, h⟩ := chk_e h
          obtain ⟨M33, eM33, h⟩ := mlet_e h
          refine r_ast F hG hk30 hi32 eM33 dX7_order_102 (fun H locs hG => ?_)
          refine lv_aload_n hx hb dX7_order_103 rfl (lv_at hl 0 rfl) ?_
          have hk34 := (show kd 49 = 6 from rfl)
          refine xg7 F hG ha0 7 (by decide) (kw696 F.kd) (v := .ref (g 49)) rfl dX7_order_104 ?_
          have hk35 := kt_s5 hk34
          refine xg6N F hG hk34 5 (by decide) (kw651 F.kd) (v := .ref (g (49 + 5))) rfl dX7_order_107 ?_
          refine lv_iload_n hx hb dX7_order_110 rfl (lv_at hl 1 rfl) ?_
          obtain ⟨hi36, h⟩ := chk_e h
          refine r_ald F hG hk35 hi36 dX7_order_111 ?_
          obtain ⟨rfl, rfl⟩ := som2 h
          exact end_i F hr hlk hG dX7_order_112
        · have h := ite_t h c21
          refine lv_aload_n hx hb dX7_order_61 rfl (lv_at hl 0 rfl) ?_
          refine lv_iconst (v := 3) hx hb dX7_order_62 (by decide) ?_
          obtain ⟨M39, r38, hc37, h⟩ := cb2_e h
          refine k_i (r_runV F hG (c_X7_no l D ca g ha0 hc37) (kd_lt ha0 (by decide)) (gd7 ha0) rfl (kw731 F.kd) (kw733 F.kd) (ks_X7_no F.kd) (kw7 F.kd) (kw734 F.kd) yd_X7_no ⟨Nat.le_of_ble_eq_true rfl, Nat.le_of_ble_eq_true rfl⟩ rfl hl.1 rfl (Nat.le_of_ble_eq_true rfl) dX7_order_63 ⟨Nat.le_of_ble_eq_true rfl, Nat.le_of_ble_eq_true rfl⟩) hG (fun H locs hG => ?_)
          obtain ⟨rfl, rfl⟩ := som2 h
          exact end_i F hr hlk hG dX7_order_66
    · have h := ite_t h c10
      refine lv_aload_n hx hb dX7_order_29 rfl (lv_at hl 0 rfl) ?_
      refine lv_iconst (v := 2) hx hb dX7_order_30 (by decide) ?_
      obtain ⟨M42, r41, hc40, h⟩ := cb2_e h
      refine k_i (r_runV F hG (c_X7_no l D ca g ha0 hc40) (kd_lt ha0 (by decide)) (gd7 ha0) rfl (kw731 F.kd) (kw733 F.kd) (ks_X7_no F.kd) (kw7 F.kd) (kw734 F.kd) yd_X7_no ⟨Nat.le_of_ble_eq_true rfl, Nat.le_of_ble_eq_true rfl⟩ rfl hl.1 rfl (Nat.le_of_ble_eq_true rfl) dX7_order_31 ⟨Nat.le_of_ble_eq_true rfl, Nat.le_of_ble_eq_true rfl⟩) hG (fun H locs hG => ?_)
      obtain ⟨rfl, rfl⟩ := som2 h
      exact end_i F hr hlk hG dX7_order_34
  · have h := ite_t h c7
    refine lv_aload_n hx hb dX7_order_13 rfl (lv_at hl 0 rfl) ?_
    refine lv_iconst (v := 1) hx hb dX7_order_14 (by decide) ?_
    obtain ⟨M45, r44, hc43, h⟩ := cb2_e h
    refine k_i (r_runV F hG (c_X7_no l D ca g ha0 hc43) (kd_lt ha0 (by decide)) (gd7 ha0) rfl (kw731 F.kd) (kw733 F.kd) (ks_X7_no F.kd) (kw7 F.kd) (kw734 F.kd) yd_X7_no ⟨Nat.le_of_ble_eq_true rfl, Nat.le_of_ble_eq_true rfl⟩ rfl hl.1 rfl (Nat.le_of_ble_eq_true rfl) dX7_order_15 ⟨Nat.le_of_ble_eq_true rfl, Nat.le_of_ble_eq_true rfl⟩) hG (fun H locs hG => ?_)
    obtain ⟨rfl, rfl⟩ := som2 h
    exact end_i F hr hlk hG dX7_order_18
set_option maxHeartbeats 4000000 in
set_option maxRecDepth 100000 in
theorem c_X7_torch (l : Launch) (D : va_G) (ca : vCA) (g : Nat → Nat) {fu : Nat} {M : Mem} {a0 : Nat} {x1 : Int32} {M' : Mem} {r : Int32} (ha0 : kd a0 = 7) (h : m_X7_torch fu M a0 x1 = some (M', r)) : cM l yX7_torch cX7_torch 2 (some .boolean) { frames := 2, cells := 0, slots := 0, locals := 43 } D ca g M [.ref (g a0), .int x1] (fun sz => cQi D ca g sz M' r) := by
  refine mk_Met (by decide) (Nat.le_of_ble_eq_true rfl) ?_
  intro p e s m below meth c F hr hlk hnm hG ls hl
  have hx := F.1
  have hb := F.2.1
  replace hl : lv_has ls 2 [(0, .ref (g a0)), (1, .int x1)] := hl
  unfold m_X7_torch at h
  refine lv_aload_n hx hb dX7_torch_0 rfl (lv_at hl 0 rfl) ?_
  refine lv_iconst (v := 0) hx hb dX7_torch_1 (by decide) ?_
  obtain ⟨M3, eM3, h⟩ := mlet_e h
  refine xp7 F hG ha0 eM3 rfl (by decide) (kw684 F.kd) rfl rfl rfl dX7_torch_2 (fun H locs hG => ?_)
  refine lv_aload_n hx hb dX7_torch_5 rfl (lv_at hl 0 rfl) ?_
  refine lv_iload_n hx hb dX7_torch_6 rfl (lv_at hl 1 rfl) ?_
  obtain ⟨r5, hc4, h⟩ := cb1_e h
  refine k_i (r_runV F hG (c_X7_isCrowd l D ca g ha0 hc4) (kd_lt ha0 (by decide)) (gd7 ha0) rfl (kw755 F.kd) (kw757 F.kd) (ks_X7_isCrowd F.kd) (kw7 F.kd) (kw758 F.kd) yd_X7_isCrowd ⟨Nat.le_of_ble_eq_true rfl, Nat.le_of_ble_eq_true rfl⟩ rfl hl.1 rfl (Nat.le_of_ble_eq_true rfl) dX7_torch_7 ⟨Nat.le_of_ble_eq_true rfl, Nat.le_of_ble_eq_true rfl⟩) hG (fun H locs hG => ?_)
  refine lv_if_ne (tgt := 27) hx hb dX7_torch_10 (by decide) (fun c6 => ?_) (fun c6 => ?_)
  · have h := ite_f h c6
    refine lv_aload_n hx hb dX7_torch_27 rfl (lv_at hl 0 rfl) ?_
    have hk7 := (show kd 49 = 6 from rfl)
    refine xg7 F hG ha0 7 (by decide) (kw696 F.kd) (v := .ref (g 49)) rfl dX7_torch_28 ?_
    have hk8 := kt_s3 hk7
    refine xg6N F hG hk7 3 (by decide) (kw647 F.kd) (v := .ref (g (49 + 3))) rfl dX7_torch_31 ?_
    refine lv_iload_n hx hb dX7_torch_34 rfl (lv_at hl 1 rfl) ?_
    obtain ⟨hi9, h⟩ := chk_e h
    refine r_ald F hG hk8 hi9 dX7_torch_35 ?_
    refine lv_if_ne (tgt := 53) hx hb dX7_torch_36 (by decide) (fun c10 => ?_) (fun c10 => ?_)
    · have h := ite_f h c10
      refine lv_aload_n hx hb dX7_torch_53 rfl (lv_at hl 0 rfl) ?_
      have hk11 := (show kd 49 = 6 from rfl)
      refine xg7 F hG ha0 7 (by decide) (kw696 F.kd) (v := .ref (g 49)) rfl dX7_torch_54 ?_
      have hk12 := kt_s4 hk11
      refine xg6N F hG hk11 4 (by decide) (kw649 F.kd) (v := .ref (g (49 + 4))) rfl dX7_torch_57 ?_
      refine lv_iload_n hx hb dX7_torch_60 rfl (lv_at hl 1 rfl) ?_
      refine lv_iconst (v := 1) hx hb dX7_torch_61 (by decide) ?_
      refine lv_aload_n hx hb dX7_torch_62 rfl (lv_at hl 0 rfl) ?_
      have hk13 := (show kd 49 = 6 from rfl)
      refine xg7 F hG ha0 7 (by decide) (kw696 F.kd) (v := .ref (g 49)) rfl dX7_torch_63 ?_
      have hk14 := kt_s4 hk13
      refine xg6N F hG hk13 4 (by decide) (kw649 F.kd) (v := .ref (g (49 + 4))) rfl dX7_torch_66 ?_
      refine lv_iload_n hx hb dX7_torch_69 rfl (lv_at hl 1 rfl) ?_
      obtain ⟨hi15, h⟩ := chk_e h
      refine r_ald F hG hk14 hi15 dX7_torch_70 ?_
      refine lv_isub hx hb dX7_torch_71 ?_
      obtain ⟨hi16, h⟩ := chk_e h
      obtain ⟨M17, eM17, h⟩ := mlet_e h
      refine r_ast F hG hk12 hi16 eM17 dX7_torch_72 (fun H locs hG => ?_)
      refine lv_aload_n hx hb dX7_torch_73 rfl (lv_at hl 0 rfl) ?_
      have hk18 := (show kd 49 = 6 from rfl)
      refine xg7 F hG ha0 7 (by decide) (kw696 F.kd) (v := .ref (g 49)) rfl dX7_torch_74 ?_
      have hk19 := kt_s4 hk18
      refine xg6N F hG hk18 4 (by decide) (kw649 F.kd) (v := .ref (g (49 + 4))) rfl dX7_torch_77 ?_
      refine lv_iload_n hx hb dX7_torch_80 rfl (lv_at hl 1 rfl) ?_
      obtain ⟨hi20, h⟩ := chk_e h
      refine r_ald F hG hk19 hi20 dX7_torch_81 ?_
      refine lv_iconst (v := 1) hx hb dX7_torch_82 (by decide) ?_
      refine lv_icmp_ne (tgt := 90) hx hb dX7_torch_83 (by decide) (fun c21 => ?_) (fun c21 => ?_)
      · have h := ite_f h c21
        refine lv_iconst (v := 0) hx hb dX7_torch_90 (by decide) ?_
        obtain ⟨rfl, rfl⟩ := som2 h
        exact end_z F hr hlk (by decide) hG dX7_torch_91
      · have h := ite_t h c21
        refine lv_iconst (v := 1) hx hb dX7_torch_86 (by decide) ?_
        refine lv_goto (tgt := 91) hx hb dX7_torch_87 (by decide) ?_
        obtain ⟨rfl, rfl⟩ := som2 h
        exact end_z F hr hlk (by decide) hG dX7_torch_91
    · have h := ite_t h c10
      refine lv_aload_n hx hb dX7_torch_39 rfl (lv_at hl 0 rfl) ?_
      refine lv_iconst (v := 2) hx hb dX7_torch_40 (by decide) ?_
      obtain ⟨M24, r23, hc22, h⟩ := cb2_e h
      refine k_i (r_runV F hG (c_X7_no l D ca g ha0 hc22) (kd_lt ha0 (by decide)) (gd7 ha0) rfl (kw731 F.kd) (kw733 F.kd) (ks_X7_no F.kd) (kw7 F.kd) (kw734 F.kd) yd_X7_no ⟨Nat.le_of_ble_eq_true rfl, Nat.le_of_ble_eq_true rfl⟩ rfl hl.1 rfl (Nat.le_of_ble_eq_true rfl) dX7_torch_41 ⟨Nat.le_of_ble_eq_true rfl, Nat.le_of_ble_eq_true rfl⟩) hG (fun H locs hG => ?_)
      refine lv_if_eq (tgt := 51) hx hb dX7_torch_44 (by decide) (fun c25 => ?_) (fun c25 => ?_)
      · have h := ite_t h c25
        refine lv_iconst (v := 0) hx hb dX7_torch_51 (by decide) ?_
        obtain ⟨rfl, rfl⟩ := som2 h
        exact end_z F hr hlk (by decide) hG dX7_torch_52
      · have h := ite_f h c25
        refine lv_iconst (v := 1) hx hb dX7_torch_47 (by decide) ?_
        refine lv_goto (tgt := 52) hx hb dX7_torch_48 (by decide) ?_
        obtain ⟨rfl, rfl⟩ := som2 h
        exact end_z F hr hlk (by decide) hG dX7_torch_52
  · have h := ite_t h c6
    refine lv_aload_n hx hb dX7_torch_13 rfl (lv_at hl 0 rfl) ?_
    refine lv_iconst (v := 1) hx hb dX7_torch_14 (by decide) ?_
    obtain ⟨M28, r27, hc26, h⟩ := cb2_e h
    refine k_i (r_runV F hG (c_X7_no l D ca g ha0 hc26) (kd_lt ha0 (by decide)) (gd7 ha0) rfl (kw731 F.kd) (kw733 F.kd) (ks_X7_no F.kd) (kw7 F.kd) (kw734 F.kd) yd_X7_no ⟨Nat.le_of_ble_eq_true rfl, Nat.le_of_ble_eq_true rfl⟩ rfl hl.1 rfl (Nat.le_of_ble_eq_true rfl) dX7_torch_15 ⟨Nat.le_of_ble_eq_true rfl, Nat.le_of_ble_eq_true rfl⟩) hG (fun H locs hG => ?_)
    refine lv_if_eq (tgt := 25) hx hb dX7_torch_18 (by decide) (fun c29 => ?_) (fun c29 => ?_)
    · have h := ite_t h c29
      refine lv_iconst (v := 0) hx hb dX7_torch_25 (by decide) ?_
      obtain ⟨rfl, rfl⟩ := som2 h
      exact end_z F hr hlk (by decide) hG dX7_torch_26
    · have h := ite_f h c29
      refine lv_iconst (v := 1) hx hb dX7_torch_21 (by decide) ?_
      refine lv_goto (tgt := 26) hx hb dX7_torch_22 (by decide) ?_
      obtain ⟨rfl, rfl⟩ := som2 h
      exact end_z F hr hlk (by decide) hG dX7_torch_26
set_option maxHeartbeats 4000000 in
set_option maxRecDepth 100000 in
theorem m_X7_patrol_L113_w {p : Program} {l : Launch} {e : Env} {s : State} {m : MethodId} {args : Array Value} {below : List Frame} {meth : Method} {c : Code} {Q : State → Prop} {D : va_G} {ca : vCA} {g : Nat → Nat} {fu : Nat} {q0 : Nat} {y3 : Int32} {y4 : Int32} {out : Mem} (F : FX p m c cX7_patrol 6 s D ca g RX7) (hq0 : kd q0 = 7)
    (K0 : ∀ (M1 : Mem) (H : Heap) (locs : List Loc) (ls : Array Slot), out = M1 → GW D ca g s M1 H locs → lv_has ls 6 [(0, .ref (g q0))] → W p l e ({ frames := 2, cells := 0, slots := 0, locals := 43 }) s m args below meth c H locs 0 0 Q (F0 m 149 ls [])) :
    ∀ (n : Nat) (M : Mem) (z5 : Int32), m_X7_patrol_L113 fu q0 y3 y4 n M z5 = some out → ∀ (H : Heap) (locs : List Loc) (ls : Array Slot), GW D ca g s M H locs → lv_has ls 6 [(0, .ref (g q0)), (3, .int y3), (4, .int y4), (5, .int z5)] → W p l e ({ frames := 2, cells := 0, slots := 0, locals := 43 }) s m args below meth c H locs 0 0 Q (F0 m 113 ls []) := by
  have hx := F.1
  have hb := F.2.1
  intro n
  induction n with
  | zero =>
    intro M z5 h
    exact absurd h (by simp [m_X7_patrol_L113])
  | succ n ih =>
    intro M z5 h H locs ls hG hl
    rw [m_X7_patrol_L113] at h
    refine lv_iload hx hb dX7_patrol_113 (lv_at hl 3 rfl) ?_
    refine lv_iload_n hx hb dX7_patrol_115 rfl (lv_at hl 1 rfl) ?_
    refine lv_icmp_ge (tgt := 149) hx hb dX7_patrol_116 (by decide) (fun c34 => ?_) (fun c34 => ?_)
    · have h := ite_t h c34
      exact K0 _ _ _ _ (som1 h).symm hG (lv_sub hl [0] rfl)
    · have h := ite_f h c34
      refine lv_aload_n hx hb dX7_patrol_119 rfl (lv_at hl 0 rfl) ?_
      have hk35 := kt_m2 hq0
      refine xg7 F hG hq0 4 (by decide) (kw691 F.kd) (v := .ref (g (q0 + 2))) rfl dX7_patrol_120 ?_
      refine lv_bipush (v := 12) hx hb dX7_patrol_123 (by decide) ?_
      refine lv_aload_n hx hb dX7_patrol_125 rfl (lv_at hl 0 rfl) ?_
      refine xg7 F hG hq0 2 (by decide) (kw688 F.kd) (v := .int (M q0 2)) rfl dX7_patrol_126 ?_
      refine lv_imul hx hb dX7_patrol_129 ?_
      refine lv_iload hx hb dX7_patrol_130 (lv_at hl 3 rfl) ?_
      refine lv_iadd hx hb dX7_patrol_132 ?_
      refine lv_iload hx hb dX7_patrol_133 (lv_at hl 2 rfl) ?_
      refine lv_iconst (v := 2) hx hb dX7_patrol_135 (by decide) ?_
      refine lv_iload hx hb dX7_patrol_136 (lv_at hl 3 rfl) ?_
      refine lv_imul hx hb dX7_patrol_138 ?_
      refine lv_ishr hx hb dX7_patrol_139 ?_
      refine lv_iconst (v := 3) hx hb dX7_patrol_140 (by decide) ?_
      refine lv_iand hx hb dX7_patrol_141 ?_
      obtain ⟨hi36, h⟩ := chk_e h
      obtain ⟨M37, eM37, h⟩ := mlet_e h
      refine r_ast F hG hk35 hi36 eM37 dX7_patrol_142 (fun H locs hG => ?_)
      obtain ⟨x38, ex38, h⟩ := mlet_e h
      refine lv_iinc (v := x38) (lv' := [(5, .int x38), (0, .ref (g q0)), (3, .int y3), (4, .int y4)]) hx hb dX7_patrol_143 hl (k := 3) rfl (by rw [ex38]; rfl) (by decide) rfl (fun ls hl => ?_)
      refine lv_goto (tgt := 113) hx hb dX7_patrol_146 (by decide) ?_
      exact ih M37 x38 h _ _ _ hG (lv_sub hl [1, 2, 3, 0] rfl)
set_option maxHeartbeats 4000000 in
set_option maxRecDepth 100000 in
theorem c_X7_patrol (l : Launch) (D : va_G) (ca : vCA) (g : Nat → Nat) {fu : Nat} {M : Mem} {a0 : Nat} {x1 : Int32} {x2 : Int32} {x3 : Int32} {x4 : Int32} {M' : Mem} {r : Int32} (ha0 : kd a0 = 7) (h : m_X7_patrol fu M a0 x1 x2 x3 x4 = some (M', r)) : cM l yX7_patrol cX7_patrol 6 (some .int) { frames := 2, cells := 0, slots := 0, locals := 43 } D ca g M [.ref (g a0), .int x1, .int x2, .int x3, .int x4] (fun sz => cQi D ca g sz M' r) := by
  refine mk_Met (by decide) (Nat.le_of_ble_eq_true rfl) ?_
  intro p e s m below meth c F hr hlk hnm hG ls hl
  have hx := F.1
  have hb := F.2.1
  replace hl : lv_has ls 6 [(0, .ref (g a0)), (1, .int x1), (2, .int x2), (3, .int x3), (4, .int x4)] := hl
  unfold m_X7_patrol at h
  refine lv_aload_n hx hb dX7_patrol_0 rfl (lv_at hl 0 rfl) ?_
  refine lv_iconst (v := 0) hx hb dX7_patrol_1 (by decide) ?_
  obtain ⟨M6, eM6, h⟩ := mlet_e h
  refine xp7 F hG ha0 eM6 rfl (by decide) (kw684 F.kd) rfl rfl rfl dX7_patrol_2 (fun H locs hG => ?_)
  refine lv_iload_n hx hb dX7_patrol_5 rfl (lv_at hl 1 rfl) ?_
  refine lv_iload_n hx hb dX7_patrol_6 rfl (lv_at hl 2 rfl) ?_
  obtain ⟨r8, hc7, h⟩ := cb1_e h
  refine k_i (r_runS F hG (c_X7_isCell l D ca g hc7) (kw725 F.kd) (kw726 F.kd) (kw7 F.kd) (kw727 F.kd) yd_X7_isCell ⟨Nat.le_of_ble_eq_true rfl, Nat.le_of_ble_eq_true rfl⟩ rfl hl.1 rfl (Nat.le_of_ble_eq_true rfl) dX7_patrol_7 ⟨Nat.le_of_ble_eq_true rfl, Nat.le_of_ble_eq_true rfl⟩) hG (fun H locs hG => ?_)
  refine lv_if_ne (tgt := 19) hx hb dX7_patrol_10 (by decide) (fun c9 => ?_) (fun c9 => ?_)
  · have h := ite_f h c9
    refine lv_iload_n hx hb dX7_patrol_19 rfl (lv_at hl 3 rfl) ?_
    refine lv_iconst (v := 1) hx hb dX7_patrol_20 (by decide) ?_
    refine lv_bipush (v := 12) hx hb dX7_patrol_21 (by decide) ?_
    obtain ⟨r11, hc10, h⟩ := cb1_e h
    refine k_i (r_runS F hG (c_X7_isIn l D ca g hc10) (kw728 F.kd) (kw729 F.kd) (kw7 F.kd) (kw730 F.kd) yd_X7_isIn ⟨Nat.le_of_ble_eq_true rfl, Nat.le_of_ble_eq_true rfl⟩ rfl hl.1 rfl (Nat.le_of_ble_eq_true rfl) dX7_patrol_23 ⟨Nat.le_of_ble_eq_true rfl, Nat.le_of_ble_eq_true rfl⟩) hG (fun H locs hG => ?_)
    refine lv_if_eq (tgt := 45) hx hb dX7_patrol_26 (by decide) (fun c12 => ?_) (fun c12 => ?_)
    · have h := ite_t h c12
      refine lv_aload_n hx hb dX7_patrol_45 rfl (lv_at hl 0 rfl) ?_
      refine lv_iconst (v := 2) hx hb dX7_patrol_46 (by decide) ?_
      obtain ⟨M15, r14, hc13, h⟩ := cb2_e h
      refine k_i (r_runV F hG (c_X7_no l D ca g ha0 hc13) (kd_lt ha0 (by decide)) (gd7 ha0) rfl (kw731 F.kd) (kw733 F.kd) (ks_X7_no F.kd) (kw7 F.kd) (kw734 F.kd) yd_X7_no ⟨Nat.le_of_ble_eq_true rfl, Nat.le_of_ble_eq_true rfl⟩ rfl hl.1 rfl (Nat.le_of_ble_eq_true rfl) dX7_patrol_47 ⟨Nat.le_of_ble_eq_true rfl, Nat.le_of_ble_eq_true rfl⟩) hG (fun H locs hG => ?_)
      obtain ⟨rfl, rfl⟩ := som2 h
      exact end_i F hr hlk hG dX7_patrol_50
    · have h := ite_f h c12
      refine lv_iload hx hb dX7_patrol_29 (lv_at hl 4 rfl) ?_
      refine lv_iconst (v := 0) hx hb dX7_patrol_31 (by decide) ?_
      refine lv_iconst (v := 1) hx hb dX7_patrol_32 (by decide) ?_
      refine lv_iconst (v := 2) hx hb dX7_patrol_33 (by decide) ?_
      refine lv_iload_n hx hb dX7_patrol_34 rfl (lv_at hl 3 rfl) ?_
      refine lv_imul hx hb dX7_patrol_35 ?_
      refine lv_ishl hx hb dX7_patrol_36 ?_
      refine lv_iconst (v := 1) hx hb dX7_patrol_37 (by decide) ?_
      refine lv_isub hx hb dX7_patrol_38 ?_
      obtain ⟨r17, hc16, h⟩ := cb1_e h
      refine k_i (r_runS F hG (c_X7_isIn l D ca g hc16) (kw728 F.kd) (kw729 F.kd) (kw7 F.kd) (kw730 F.kd) yd_X7_isIn ⟨Nat.le_of_ble_eq_true rfl, Nat.le_of_ble_eq_true rfl⟩ rfl hl.1 rfl (Nat.le_of_ble_eq_true rfl) dX7_patrol_39 ⟨Nat.le_of_ble_eq_true rfl, Nat.le_of_ble_eq_true rfl⟩) hG (fun H locs hG => ?_)
      refine lv_if_ne (tgt := 51) hx hb dX7_patrol_42 (by decide) (fun c18 => ?_) (fun c18 => ?_)
      · have h := ite_f h c18
        refine lv_aload_n hx hb dX7_patrol_51 rfl (lv_at hl 0 rfl) ?_
        refine xg7 F hG ha0 2 (by decide) (kw688 F.kd) (v := .int (M6 a0 2)) rfl dX7_patrol_52 ?_
        refine lv_iconst (v := 3) hx hb dX7_patrol_55 (by decide) ?_
        refine lv_icmp_eq (tgt := 76) hx hb dX7_patrol_56 (by decide) (fun c19 => ?_) (fun c19 => ?_)
        · have h := ite_t h c19
          refine lv_aload_n hx hb dX7_patrol_76 rfl (lv_at hl 0 rfl) ?_
          refine lv_iconst (v := 3) hx hb dX7_patrol_77 (by decide) ?_
          obtain ⟨M22, r21, hc20, h⟩ := cb2_e h
          refine k_i (r_runV F hG (c_X7_no l D ca g ha0 hc20) (kd_lt ha0 (by decide)) (gd7 ha0) rfl (kw731 F.kd) (kw733 F.kd) (ks_X7_no F.kd) (kw7 F.kd) (kw734 F.kd) yd_X7_no ⟨Nat.le_of_ble_eq_true rfl, Nat.le_of_ble_eq_true rfl⟩ rfl hl.1 rfl (Nat.le_of_ble_eq_true rfl) dX7_patrol_78 ⟨Nat.le_of_ble_eq_true rfl, Nat.le_of_ble_eq_true rfl⟩) hG (fun H locs hG => ?_)
          obtain ⟨rfl, rfl⟩ := som2 h
          exact end_i F hr hlk hG dX7_patrol_81
        · have h := ite_f h c19
          refine lv_aload_n hx hb dX7_patrol_59 rfl (lv_at hl 0 rfl) ?_
          have hk23 := (show kd 49 = 6 from rfl)
          refine xg7 F hG ha0 7 (by decide) (kw696 F.kd) (v := .ref (g 49)) rfl dX7_patrol_60 ?_
          have hk24 := kt_s1 hk23
          refine xg6N F hG hk23 1 (by decide) (kw643 F.kd) (v := .ref (g (49 + 1))) rfl dX7_patrol_63 ?_
          refine lv_bipush (v := 12) hx hb dX7_patrol_66 (by decide) ?_
          refine lv_iload_n hx hb dX7_patrol_68 rfl (lv_at hl 2 rfl) ?_
          refine lv_imul hx hb dX7_patrol_69 ?_
          refine lv_iload_n hx hb dX7_patrol_70 rfl (lv_at hl 1 rfl) ?_
          refine lv_iadd hx hb dX7_patrol_71 ?_
          obtain ⟨hi25, h⟩ := chk_e h
          refine r_ald F hG hk24 hi25 dX7_patrol_72 ?_
          refine lv_if_eq (tgt := 82) hx hb dX7_patrol_73 (by decide) (fun c26 => ?_) (fun c26 => ?_)
          · have h := ite_t h c26
            refine lv_aload_n hx hb dX7_patrol_82 rfl (lv_at hl 0 rfl) ?_
            have hk27 := (show kd 49 = 6 from rfl)
            refine xg7 F hG ha0 7 (by decide) (kw696 F.kd) (v := .ref (g 49)) rfl dX7_patrol_83 ?_
            have hk28 := kt_s8 hk27
            refine xg6N F hG hk27 8 (by decide) (kw657 F.kd) (v := .ref (g (49 + 8))) rfl dX7_patrol_86 ?_
            refine lv_aload_n hx hb dX7_patrol_89 rfl (lv_at hl 0 rfl) ?_
            refine xg7 F hG ha0 2 (by decide) (kw688 F.kd) (v := .int (M6 a0 2)) rfl dX7_patrol_90 ?_
            refine lv_bipush (v := 12) hx hb dX7_patrol_93 (by decide) ?_
            refine lv_iload_n hx hb dX7_patrol_95 rfl (lv_at hl 2 rfl) ?_
            refine lv_imul hx hb dX7_patrol_96 ?_
            refine lv_iload_n hx hb dX7_patrol_97 rfl (lv_at hl 1 rfl) ?_
            refine lv_iadd hx hb dX7_patrol_98 ?_
            obtain ⟨hi29, h⟩ := chk_e h
            obtain ⟨M30, eM30, h⟩ := mlet_e h
            refine r_ast F hG hk28 hi29 eM30 dX7_patrol_99 (fun H locs hG => ?_)
            refine lv_aload_n hx hb dX7_patrol_100 rfl (lv_at hl 0 rfl) ?_
            have hk31 := kt_m1 ha0
            refine xg7 F hG ha0 3 (by decide) (kw689 F.kd) (v := .ref (g (a0 + 1))) rfl dX7_patrol_101 ?_
            refine lv_aload_n hx hb dX7_patrol_104 rfl (lv_at hl 0 rfl) ?_
            refine xg7 F hG ha0 2 (by decide) (kw688 F.kd) (v := .int (M30 a0 2)) rfl dX7_patrol_105 ?_
            refine lv_iload_n hx hb dX7_patrol_108 rfl (lv_at hl 3 rfl) ?_
            obtain ⟨hi32, h⟩ := chk_e h
            obtain ⟨M33, eM33, h⟩ := mlet_e h
            refine r_ast F hG hk31 hi32 eM33 dX7_patrol_109 (fun H locs hG => ?_)
            refine lv_iconst (v := 0) hx hb dX7_patrol_110 (by decide) ?_
            refine lv_istore (lv' := [(5, .int 0), (0, .ref (g a0)), (1, .int x1), (2, .int x2), (3, .int x3), (4, .int x4)]) hx hb dX7_patrol_111 hl (by decide) rfl (fun ls hl => ?_)
            obtain ⟨o39, ho40, h⟩ := cb1_e h
            refine m_X7_patrol_L113_w (out := o39) F ha0 ?_ _ _ _ ho40 _ _ _ hG (lv_sub hl [1, 4, 5, 0] rfl)
            · intro M41 H locs ls eo hG hl
              subst o39
              refine lv_aload_n hx hb dX7_patrol_149 rfl (lv_at hl 0 rfl) ?_
              refine lv_dup hx hb dX7_patrol_150 rfl ?_
              refine xg7 F hG ha0 2 (by decide) (kw688 F.kd) (v := .int (M41 a0 2)) rfl dX7_patrol_151 ?_
              refine lv_iconst (v := 1) hx hb dX7_patrol_154 (by decide) ?_
              refine lv_iadd hx hb dX7_patrol_155 ?_
              obtain ⟨M42, eM42, h⟩ := mlet_e h
              refine xp7 F hG ha0 eM42 rfl (by decide) (kw688 F.kd) rfl rfl rfl dX7_patrol_156 (fun H locs hG => ?_)
              refine lv_aload_n hx hb dX7_patrol_159 rfl (lv_at hl 0 rfl) ?_
              refine xg7 F hG ha0 2 (by decide) (kw688 F.kd) (v := .int (M42 a0 2)) rfl dX7_patrol_160 ?_
              refine lv_iconst (v := 1) hx hb dX7_patrol_163 (by decide) ?_
              refine lv_isub hx hb dX7_patrol_164 ?_
              obtain ⟨rfl, rfl⟩ := som2 h
              exact end_i F hr hlk hG dX7_patrol_165
          · have h := ite_f h c26
            refine lv_aload_n hx hb dX7_patrol_76 rfl (lv_at hl 0 rfl) ?_
            refine lv_iconst (v := 3) hx hb dX7_patrol_77 (by decide) ?_
            obtain ⟨M45, r44, hc43, h⟩ := cb2_e h
            refine k_i (r_runV F hG (c_X7_no l D ca g ha0 hc43) (kd_lt ha0 (by decide)) (gd7 ha0) rfl (kw731 F.kd) (kw733 F.kd) (ks_X7_no F.kd) (kw7 F.kd) (kw734 F.kd) yd_X7_no ⟨Nat.le_of_ble_eq_true rfl, Nat.le_of_ble_eq_true rfl⟩ rfl hl.1 rfl (Nat.le_of_ble_eq_true rfl) dX7_patrol_78 ⟨Nat.le_of_ble_eq_true rfl, Nat.le_of_ble_eq_true rfl⟩) hG (fun H locs hG => ?_)
            obtain ⟨rfl, rfl⟩ := som2 h
            exact end_i F hr hlk hG dX7_patrol_81
      · have h := ite_t h c18
        refine lv_aload_n hx hb dX7_patrol_45 rfl (lv_at hl 0 rfl) ?_
        refine lv_iconst (v := 2) hx hb dX7_patrol_46 (by decide) ?_
        obtain ⟨M48, r47, hc46, h⟩ := cb2_e h
        refine k_i (r_runV F hG (c_X7_no l D ca g ha0 hc46) (kd_lt ha0 (by decide)) (gd7 ha0) rfl (kw731 F.kd) (kw733 F.kd) (ks_X7_no F.kd) (kw7 F.kd) (kw734 F.kd) yd_X7_no ⟨Nat.le_of_ble_eq_true rfl, Nat.le_of_ble_eq_true rfl⟩ rfl hl.1 rfl (Nat.le_of_ble_eq_true rfl) dX7_patrol_47 ⟨Nat.le_of_ble_eq_true rfl, Nat.le_of_ble_eq_true rfl⟩) hG (fun H locs hG => ?_)
        obtain ⟨rfl, rfl⟩ := som2 h
        exact end_i F hr hlk hG dX7_patrol_50
  · have h := ite_t h c9
    refine lv_aload_n hx hb dX7_patrol_13 rfl (lv_at hl 0 rfl) ?_
    refine lv_iconst (v := 1) hx hb dX7_patrol_14 (by decide) ?_
    obtain ⟨M51, r50, hc49, h⟩ := cb2_e h
    refine k_i (r_runV F hG (c_X7_no l D ca g ha0 hc49) (kd_lt ha0 (by decide)) (gd7 ha0) rfl (kw731 F.kd) (kw733 F.kd) (ks_X7_no F.kd) (kw7 F.kd) (kw734 F.kd) yd_X7_no ⟨Nat.le_of_ble_eq_true rfl, Nat.le_of_ble_eq_true rfl⟩ rfl hl.1 rfl (Nat.le_of_ble_eq_true rfl) dX7_patrol_15 ⟨Nat.le_of_ble_eq_true rfl, Nat.le_of_ble_eq_true rfl⟩) hG (fun H locs hG => ?_)
    obtain ⟨rfl, rfl⟩ := som2 h
    exact end_i F hr hlk hG dX7_patrol_18

set_option maxHeartbeats 4000000 in
set_option maxRecDepth 100000 in
theorem c_X1_crowdNumber (l : Launch) (D : va_G) (ca : vCA) (g : Nat → Nat) {fu : Nat} {M : Mem} {a0 : Nat} {a1 : Nat} {x2 : Int32} {r : Int32} (ha0 : kd a0 = 1) (ha1 : kd a1 = 0) (h : m_X1_crowdNumber fu M a0 a1 x2 = some r) : cM l yX1_crowdNumber cX1_crowdNumber 3 (some .int) { frames := 3, cells := 0, slots := 0, locals := 73 } D ca g M [.ref (g a0), .ref (g a1), .int x2] (fun sz => cQi D ca g sz M r) := by
  refine mk_Met (by decide) (Nat.le_of_ble_eq_true rfl) ?_
  intro p e s m below meth c F hr hlk hnm hG ls hl
  have hx := F.1
  have hb := F.2.1
  replace hl : lv_has ls 3 [(0, .ref (g a0)), (1, .ref (g a1)), (2, .int x2)] := hl
  unfold m_X1_crowdNumber at h
  refine lv_iload_n hx hb dX1_crowdNumber_0 rfl (lv_at hl 2 rfl) ?_
  by_cases c4 : x2 = 0
  · have h := ite_t h c4
    refine lv_tableIn (off := 43) (tgt := 44) hx hb dX1_crowdNumber_1 (by rw [c4]; decide) (by rw [c4]; decide) (by rw [c4]; rfl) (by decide) ?_
    refine lv_aload_n hx hb dX1_crowdNumber_44 rfl (lv_at hl 1 rfl) ?_
    refine xg0N F hG ha1 0 (by decide) (kw418 F.kd) (v := .int (M a1 0)) rfl dX1_crowdNumber_45 ?_
    refine lv_bipush (v := 12) hx hb dX1_crowdNumber_48 (by decide) ?_
    obtain ⟨x5, ex5, h⟩ := mlet_e h
    rw [← ex5]
    refine lv_irem hx hb dX1_crowdNumber_50 (by decide) ?_
    obtain rfl := som1 h
    exact end_i F hr hlk hG dX1_crowdNumber_51
  have h := ite_f h c4
  by_cases c6 : x2 = 1
  · have h := ite_t h c6
    refine lv_tableIn (off := 51) (tgt := 52) hx hb dX1_crowdNumber_1 (by rw [c6]; decide) (by rw [c6]; decide) (by rw [c6]; rfl) (by decide) ?_
    refine lv_aload_n hx hb dX1_crowdNumber_52 rfl (lv_at hl 1 rfl) ?_
    refine xg0N F hG ha1 0 (by decide) (kw418 F.kd) (v := .int (M a1 0)) rfl dX1_crowdNumber_53 ?_
    refine lv_bipush (v := 12) hx hb dX1_crowdNumber_56 (by decide) ?_
    refine lv_idiv hx hb dX1_crowdNumber_58 (by decide) ?_
    obtain rfl := som1 h
    exact end_i F hr hlk hG dX1_crowdNumber_59
  have h := ite_f h c6
  by_cases c7 : x2 = 2
  · have h := ite_t h c7
    refine lv_tableIn (off := 59) (tgt := 60) hx hb dX1_crowdNumber_1 (by rw [c7]; decide) (by rw [c7]; decide) (by rw [c7]; rfl) (by decide) ?_
    refine lv_aload_n hx hb dX1_crowdNumber_60 rfl (lv_at hl 1 rfl) ?_
    refine xg0N F hG ha1 1 (by decide) (kw421 F.kd) (v := .int (M a1 1)) rfl dX1_crowdNumber_61 ?_
    obtain rfl := som1 h
    exact end_i F hr hlk hG dX1_crowdNumber_64
  have h := ite_f h c7
  by_cases c8 : x2 = 3
  · have h := ite_t h c8
    refine lv_tableIn (off := 64) (tgt := 65) hx hb dX1_crowdNumber_1 (by rw [c8]; decide) (by rw [c8]; decide) (by rw [c8]; rfl) (by decide) ?_
    refine lv_aload_n hx hb dX1_crowdNumber_65 rfl (lv_at hl 1 rfl) ?_
    refine xg0N F hG ha1 2 (by decide) (kw422 F.kd) (v := .int (M a1 2)) rfl dX1_crowdNumber_66 ?_
    refine lv_if_eq (tgt := 76) hx hb dX1_crowdNumber_69 (by decide) (fun c9 => ?_) (fun c9 => ?_)
    · have h := ite_t h c9
      refine lv_iconst (v := 0) hx hb dX1_crowdNumber_76 (by decide) ?_
      obtain rfl := som1 h
      exact end_i F hr hlk hG dX1_crowdNumber_77
    · have h := ite_f h c9
      refine lv_iconst (v := 1) hx hb dX1_crowdNumber_72 (by decide) ?_
      refine lv_goto (tgt := 77) hx hb dX1_crowdNumber_73 (by decide) ?_
      obtain rfl := som1 h
      exact end_i F hr hlk hG dX1_crowdNumber_77
  have h := ite_f h c8
  by_cases c10 : x2 = 4
  · have h := ite_t h c10
    refine lv_tableIn (off := 77) (tgt := 78) hx hb dX1_crowdNumber_1 (by rw [c10]; decide) (by rw [c10]; decide) (by rw [c10]; rfl) (by decide) ?_
    refine lv_aload_n hx hb dX1_crowdNumber_78 rfl (lv_at hl 1 rfl) ?_
    refine xg0N F hG ha1 4 (by decide) (kw428 F.kd) (v := .int (M a1 4)) rfl dX1_crowdNumber_79 ?_
    obtain rfl := som1 h
    exact end_i F hr hlk hG dX1_crowdNumber_82
  have h := ite_f h c10
  by_cases c11 : x2 = 5
  · have h := ite_t h c11
    refine lv_tableIn (off := 82) (tgt := 83) hx hb dX1_crowdNumber_1 (by rw [c11]; decide) (by rw [c11]; decide) (by rw [c11]; rfl) (by decide) ?_
    refine lv_aload_n hx hb dX1_crowdNumber_83 rfl (lv_at hl 1 rfl) ?_
    obtain ⟨r13, hc12, h⟩ := cb1_e h
    refine k_i (r_runVN F hG (c_X0_firstOrder l D ca g ha1 hc12) (kd_lt ha1 (by decide)) (gd0 ha1) rfl (kw117 F.kd) (kw119 F.kd) (ks_X0_firstOrder F.kd) (kw4 F.kd) (kw121 F.kd) yd_X0_firstOrder ⟨Nat.le_of_ble_eq_true rfl, Nat.le_of_ble_eq_true rfl⟩ rfl hl.1 rfl (Nat.le_of_ble_eq_true rfl) dX1_crowdNumber_84 ⟨Nat.le_of_ble_eq_true rfl, Nat.le_of_ble_eq_true rfl⟩) hG (fun H locs hG => ?_)
    obtain rfl := som1 h
    exact end_i F hr hlk hG dX1_crowdNumber_87
  have h := ite_f h c11
  by_cases c14 : x2 = 6
  · have h := ite_t h c14
    refine lv_tableIn (off := 87) (tgt := 88) hx hb dX1_crowdNumber_1 (by rw [c14]; decide) (by rw [c14]; decide) (by rw [c14]; rfl) (by decide) ?_
    refine lv_aload_n hx hb dX1_crowdNumber_88 rfl (lv_at hl 1 rfl) ?_
    refine xg0N F hG ha1 5 (by decide) (kw429 F.kd) (v := .int (M a1 5)) rfl dX1_crowdNumber_89 ?_
    obtain rfl := som1 h
    exact end_i F hr hlk hG dX1_crowdNumber_92
  have h := ite_f h c14
  refine lv_tableOut (tgt := 93) hx hb dX1_crowdNumber_1 (tso6 c4 c6 c7 c8 c10 c11 c14) (by decide) ?_
  refine lv_aload_n hx hb dX1_crowdNumber_93 rfl (lv_at hl 0 rfl) ?_
  refine lv_aload_n hx hb dX1_crowdNumber_94 rfl (lv_at hl 1 rfl) ?_
  obtain ⟨r16, hc15, h⟩ := cb1_e h
  refine k_i (r_runV F hG (c_X1_patrolsThatSee l D ca g ha0 ha1 hc15) (kd_lt ha0 (by decide)) (gd1 ha0) rfl (kw122 F.kd) (kw124 F.kd) (ks_X1_patrolsThatSee F.kd) (kw2 F.kd) (kw125 F.kd) yd_X1_patrolsThatSee ⟨Nat.le_of_ble_eq_true rfl, Nat.le_of_ble_eq_true rfl⟩ rfl hl.1 rfl (Nat.le_of_ble_eq_true rfl) dX1_crowdNumber_95 ⟨Nat.le_of_ble_eq_true rfl, Nat.le_of_ble_eq_true rfl⟩) hG (fun H locs hG => ?_)
  obtain rfl := som1 h
  exact end_i F hr hlk hG dX1_crowdNumber_98
set_option maxHeartbeats 4000000 in
set_option maxRecDepth 100000 in
theorem c_X1_guardNumber (l : Launch) (D : va_G) (ca : vCA) (g : Nat → Nat) {fu : Nat} {M : Mem} {a0 : Nat} {a1 : Nat} {x2 : Int32} {r : Int32} (ha0 : kd a0 = 1) (ha1 : kd a1 = 2) (h : m_X1_guardNumber fu M a0 a1 x2 = some r) : cM l yX1_guardNumber cX1_guardNumber 3 (some .int) { frames := 3, cells := 0, slots := 0, locals := 73 } D ca g M [.ref (g a0), .ref (g a1), .int x2] (fun sz => cQi D ca g sz M r) := by
  refine mk_Met (by decide) (Nat.le_of_ble_eq_true rfl) ?_
  intro p e s m below meth c F hr hlk hnm hG ls hl
  have hx := F.1
  have hb := F.2.1
  replace hl : lv_has ls 3 [(0, .ref (g a0)), (1, .ref (g a1)), (2, .int x2)] := hl
  unfold m_X1_guardNumber at h
  refine lv_iload_n hx hb dX1_guardNumber_0 rfl (lv_at hl 2 rfl) ?_
  by_cases c4 : x2 = 0
  · have h := ite_t h c4
    refine lv_tableIn (off := 27) (tgt := 28) hx hb dX1_guardNumber_1 (by rw [c4]; decide) (by rw [c4]; decide) (by rw [c4]; rfl) (by decide) ?_
    refine lv_aload_n hx hb dX1_guardNumber_28 rfl (lv_at hl 1 rfl) ?_
    refine xg2N F hG ha1 0 (by decide) (kw451 F.kd) (v := .int (M a1 0)) rfl dX1_guardNumber_29 ?_
    refine lv_bipush (v := 12) hx hb dX1_guardNumber_32 (by decide) ?_
    obtain ⟨x5, ex5, h⟩ := mlet_e h
    rw [← ex5]
    refine lv_irem hx hb dX1_guardNumber_34 (by decide) ?_
    obtain rfl := som1 h
    exact end_i F hr hlk hG dX1_guardNumber_35
  have h := ite_f h c4
  by_cases c6 : x2 = 1
  · have h := ite_t h c6
    refine lv_tableIn (off := 35) (tgt := 36) hx hb dX1_guardNumber_1 (by rw [c6]; decide) (by rw [c6]; decide) (by rw [c6]; rfl) (by decide) ?_
    refine lv_aload_n hx hb dX1_guardNumber_36 rfl (lv_at hl 1 rfl) ?_
    refine xg2N F hG ha1 0 (by decide) (kw451 F.kd) (v := .int (M a1 0)) rfl dX1_guardNumber_37 ?_
    refine lv_bipush (v := 12) hx hb dX1_guardNumber_40 (by decide) ?_
    refine lv_idiv hx hb dX1_guardNumber_42 (by decide) ?_
    obtain rfl := som1 h
    exact end_i F hr hlk hG dX1_guardNumber_43
  have h := ite_f h c6
  by_cases c7 : x2 = 2
  · have h := ite_t h c7
    refine lv_tableIn (off := 43) (tgt := 44) hx hb dX1_guardNumber_1 (by rw [c7]; decide) (by rw [c7]; decide) (by rw [c7]; rfl) (by decide) ?_
    refine lv_aload_n hx hb dX1_guardNumber_44 rfl (lv_at hl 1 rfl) ?_
    obtain ⟨r9, hc8, h⟩ := cb1_e h
    refine k_i (r_runVN F hG (c_X2_nextDirection l D ca g ha1 hc8) (kd_lt ha1 (by decide)) (gd2 ha1) rfl (kw154 F.kd) (kw156 F.kd) (ks_X2_nextDirection F.kd) (kw5 F.kd) (kw158 F.kd) yd_X2_nextDirection ⟨Nat.le_of_ble_eq_true rfl, Nat.le_of_ble_eq_true rfl⟩ rfl hl.1 rfl (Nat.le_of_ble_eq_true rfl) dX1_guardNumber_45 ⟨Nat.le_of_ble_eq_true rfl, Nat.le_of_ble_eq_true rfl⟩) hG (fun H locs hG => ?_)
    obtain rfl := som1 h
    exact end_i F hr hlk hG dX1_guardNumber_48
  have h := ite_f h c7
  refine lv_tableOut (tgt := 49) hx hb dX1_guardNumber_1 (tso2 c4 c6 c7) (by decide) ?_
  refine lv_aload_n hx hb dX1_guardNumber_49 rfl (lv_at hl 0 rfl) ?_
  refine lv_aload_n hx hb dX1_guardNumber_50 rfl (lv_at hl 1 rfl) ?_
  obtain ⟨r11, hc10, h⟩ := cb1_e h
  refine k_i (r_runV F hG (c_X1_crowdsSeenBy l D ca g ha0 ha1 hc10) (kd_lt ha0 (by decide)) (gd1 ha0) rfl (kw159 F.kd) (kw161 F.kd) (ks_X1_crowdsSeenBy F.kd) (kw2 F.kd) (kw162 F.kd) yd_X1_crowdsSeenBy ⟨Nat.le_of_ble_eq_true rfl, Nat.le_of_ble_eq_true rfl⟩ rfl hl.1 rfl (Nat.le_of_ble_eq_true rfl) dX1_guardNumber_51 ⟨Nat.le_of_ble_eq_true rfl, Nat.le_of_ble_eq_true rfl⟩) hG (fun H locs hG => ?_)
  obtain rfl := som1 h
  exact end_i F hr hlk hG dX1_guardNumber_54
set_option maxHeartbeats 4000000 in
set_option maxRecDepth 100000 in
theorem c_X1_total (l : Launch) (D : va_G) (ca : vCA) (g : Nat → Nat) {fu : Nat} {M : Mem} {a0 : Nat} {x1 : Int32} {r : Int32} (ha0 : kd a0 = 1) (h : m_X1_total fu M a0 x1 = some r) : cM l yX1_total cX1_total 2 (some .int) { frames := 2, cells := 0, slots := 0, locals := 42 } D ca g M [.ref (g a0), .int x1] (fun sz => cQi D ca g sz M r) := by
  refine mk_Met (by decide) (Nat.le_of_ble_eq_true rfl) ?_
  intro p e s m below meth c F hr hlk hnm hG ls hl
  have hx := F.1
  have hb := F.2.1
  replace hl : lv_has ls 2 [(0, .ref (g a0)), (1, .int x1)] := hl
  unfold m_X1_total at h
  refine lv_iload_n hx hb dX1_total_0 rfl (lv_at hl 1 rfl) ?_
  by_cases c3 : x1 = 0
  · have h := ite_t h c3
    refine lv_tableIn (off := 43) (tgt := 44) hx hb dX1_total_1 (by rw [c3]; decide) (by rw [c3]; decide) (by rw [c3]; rfl) (by decide) ?_
    refine lv_aload_n hx hb dX1_total_44 rfl (lv_at hl 0 rfl) ?_
    refine xg1 F hG ha0 5 (by decide) (kw476 F.kd) (v := .int (M a0 5)) rfl dX1_total_45 ?_
    obtain rfl := som1 h
    exact end_i F hr hlk hG dX1_total_48
  have h := ite_f h c3
  by_cases c4 : x1 = 1
  · have h := ite_t h c4
    refine lv_tableIn (off := 48) (tgt := 49) hx hb dX1_total_1 (by rw [c4]; decide) (by rw [c4]; decide) (by rw [c4]; rfl) (by decide) ?_
    refine lv_aload_n hx hb dX1_total_49 rfl (lv_at hl 0 rfl) ?_
    have hk5 := kt_quarter ha0
    refine xg1 F hG ha0 0 (by decide) (kw466 F.kd) (v := .ref (g (a0 + 1))) rfl dX1_total_50 ?_
    refine lv_iconst (v := (-1)) hx hb dX1_total_53 (by decide) ?_
    obtain ⟨r7, hc6, h⟩ := cb1_e h
    refine k_i (r_runVN F hG (c_X3_cellsWith l D ca g hk5 hc6) (kd_lt hk5 (by decide)) (gd3 hk5) rfl (kw171 F.kd) (kw173 F.kd) (ks_X3_cellsWith F.kd) (kw3 F.kd) (kw174 F.kd) yd_X3_cellsWith ⟨Nat.le_of_ble_eq_true rfl, Nat.le_of_ble_eq_true rfl⟩ rfl hl.1 rfl (Nat.le_of_ble_eq_true rfl) dX1_total_54 ⟨Nat.le_of_ble_eq_true rfl, Nat.le_of_ble_eq_true rfl⟩) hG (fun H locs hG => ?_)
    obtain rfl := som1 h
    exact end_i F hr hlk hG dX1_total_57
  have h := ite_f h c4
  by_cases c8 : x1 = 2
  · have h := ite_t h c8
    refine lv_tableIn (off := 57) (tgt := 58) hx hb dX1_total_1 (by rw [c8]; decide) (by rw [c8]; decide) (by rw [c8]; rfl) (by decide) ?_
    refine lv_aload_n hx hb dX1_total_58 rfl (lv_at hl 0 rfl) ?_
    have hk9 := kt_quarter ha0
    refine xg1 F hG ha0 0 (by decide) (kw466 F.kd) (v := .ref (g (a0 + 1))) rfl dX1_total_59 ?_
    obtain ⟨r11, hc10, h⟩ := cb1_e h
    refine k_i (r_runVN F hG (c_X3_barricades l D ca g hk9 hc10) (kd_lt hk9 (by decide)) (gd3 hk9) rfl (kw175 F.kd) (kw177 F.kd) (ks_X3_barricades F.kd) (kw3 F.kd) (kw178 F.kd) yd_X3_barricades ⟨Nat.le_of_ble_eq_true rfl, Nat.le_of_ble_eq_true rfl⟩ rfl hl.1 rfl (Nat.le_of_ble_eq_true rfl) dX1_total_62 ⟨Nat.le_of_ble_eq_true rfl, Nat.le_of_ble_eq_true rfl⟩) hG (fun H locs hG => ?_)
    obtain rfl := som1 h
    exact end_i F hr hlk hG dX1_total_65
  have h := ite_f h c8
  by_cases c12 : x1 = 3
  · have h := ite_t h c12
    refine lv_tableIn (off := 65) (tgt := 66) hx hb dX1_total_1 (by rw [c12]; decide) (by rw [c12]; decide) (by rw [c12]; rfl) (by decide) ?_
    refine lv_aload_n hx hb dX1_total_66 rfl (lv_at hl 0 rfl) ?_
    have hk13 := kt_quarter ha0
    refine xg1 F hG ha0 0 (by decide) (kw466 F.kd) (v := .ref (g (a0 + 1))) rfl dX1_total_67 ?_
    refine lv_iconst (v := 0) hx hb dX1_total_70 (by decide) ?_
    obtain ⟨r15, hc14, h⟩ := cb1_e h
    refine k_i (r_runVN F hG (c_X3_cellsWith l D ca g hk13 hc14) (kd_lt hk13 (by decide)) (gd3 hk13) rfl (kw171 F.kd) (kw173 F.kd) (ks_X3_cellsWith F.kd) (kw3 F.kd) (kw174 F.kd) yd_X3_cellsWith ⟨Nat.le_of_ble_eq_true rfl, Nat.le_of_ble_eq_true rfl⟩ rfl hl.1 rfl (Nat.le_of_ble_eq_true rfl) dX1_total_71 ⟨Nat.le_of_ble_eq_true rfl, Nat.le_of_ble_eq_true rfl⟩) hG (fun H locs hG => ?_)
    obtain rfl := som1 h
    exact end_i F hr hlk hG dX1_total_74
  have h := ite_f h c12
  by_cases c16 : x1 = 4
  · have h := ite_t h c16
    refine lv_tableIn (off := 74) (tgt := 75) hx hb dX1_total_1 (by rw [c16]; decide) (by rw [c16]; decide) (by rw [c16]; rfl) (by decide) ?_
    refine lv_aload_n hx hb dX1_total_75 rfl (lv_at hl 0 rfl) ?_
    obtain ⟨r18, hc17, h⟩ := cb1_e h
    refine k_i (r_runV F hG (c_X1_crowdsLeft l D ca g ha0 hc17) (kd_lt ha0 (by decide)) (gd1 ha0) rfl (kw179 F.kd) (kw181 F.kd) (ks_X1_crowdsLeft F.kd) (kw2 F.kd) (kw182 F.kd) yd_X1_crowdsLeft ⟨Nat.le_of_ble_eq_true rfl, Nat.le_of_ble_eq_true rfl⟩ rfl hl.1 rfl (Nat.le_of_ble_eq_true rfl) dX1_total_76 ⟨Nat.le_of_ble_eq_true rfl, Nat.le_of_ble_eq_true rfl⟩) hG (fun H locs hG => ?_)
    obtain rfl := som1 h
    exact end_i F hr hlk hG dX1_total_79
  have h := ite_f h c16
  by_cases c19 : x1 = 5
  · have h := ite_t h c19
    refine lv_tableIn (off := 79) (tgt := 80) hx hb dX1_total_1 (by rw [c19]; decide) (by rw [c19]; decide) (by rw [c19]; rfl) (by decide) ?_
    refine lv_aload_n hx hb dX1_total_80 rfl (lv_at hl 0 rfl) ?_
    obtain ⟨r21, hc20, h⟩ := cb1_e h
    refine k_i (r_runV F hG (c_X1_peopleLeft l D ca g ha0 hc20) (kd_lt ha0 (by decide)) (gd1 ha0) rfl (kw183 F.kd) (kw185 F.kd) (ks_X1_peopleLeft F.kd) (kw2 F.kd) (kw186 F.kd) yd_X1_peopleLeft ⟨Nat.le_of_ble_eq_true rfl, Nat.le_of_ble_eq_true rfl⟩ rfl hl.1 rfl (Nat.le_of_ble_eq_true rfl) dX1_total_81 ⟨Nat.le_of_ble_eq_true rfl, Nat.le_of_ble_eq_true rfl⟩) hG (fun H locs hG => ?_)
    obtain rfl := som1 h
    exact end_i F hr hlk hG dX1_total_84
  have h := ite_f h c19
  by_cases c22 : x1 = 6
  · have h := ite_t h c22
    refine lv_tableIn (off := 84) (tgt := 85) hx hb dX1_total_1 (by rw [c22]; decide) (by rw [c22]; decide) (by rw [c22]; rfl) (by decide) ?_
    refine lv_aload_n hx hb dX1_total_85 rfl (lv_at hl 0 rfl) ?_
    refine xg1 F hG ha0 4 (by decide) (kw474 F.kd) (v := .int (M a0 4)) rfl dX1_total_86 ?_
    obtain rfl := som1 h
    exact end_i F hr hlk hG dX1_total_89
  have h := ite_f h c22
  refine lv_tableOut (tgt := 90) hx hb dX1_total_1 (tso6 c3 c4 c8 c12 c16 c19 c22) (by decide) ?_
  refine lv_aload_n hx hb dX1_total_90 rfl (lv_at hl 0 rfl) ?_
  obtain ⟨r24, hc23, h⟩ := cb1_e h
  refine k_i (r_runV F hG (c_X1_ordersMissed l D ca g ha0 hc23) (kd_lt ha0 (by decide)) (gd1 ha0) rfl (kw187 F.kd) (kw189 F.kd) (ks_X1_ordersMissed F.kd) (kw2 F.kd) (kw190 F.kd) yd_X1_ordersMissed ⟨Nat.le_of_ble_eq_true rfl, Nat.le_of_ble_eq_true rfl⟩ rfl hl.1 rfl (Nat.le_of_ble_eq_true rfl) dX1_total_91 ⟨Nat.le_of_ble_eq_true rfl, Nat.le_of_ble_eq_true rfl⟩) hG (fun H locs hG => ?_)
  obtain rfl := som1 h
  exact end_i F hr hlk hG dX1_total_94
set_option maxHeartbeats 4000000 in
set_option maxRecDepth 100000 in
theorem m_X1_addCrowdTo_L6_w {p : Program} {l : Launch} {e : Env} {s : State} {m : MethodId} {args : Array Value} {below : List Frame} {meth : Method} {c : Code} {Q : State → Prop} {D : va_G} {ca : vCA} {g : Nat → Nat} {fu : Nat} {M : Mem} {q0 : Nat} {q3 : Nat} {out : Int64} (F : FX p m c cX1_addCrowdTo 7 s D ca g RX1) (hq0 : kd q0 = 1) (hq3 : kd q3 = 0)
    (K0 : ∀ (u4 : Int64) (H : Heap) (locs : List Loc) (ls : Array Slot), out = u4 → GW D ca g s M H locs → lv_has ls 7 [(3, .ref (g q3)), (4, .long u4)] → W p l e ({ frames := 4, cells := 0, slots := 0, locals := 95 }) s m args below meth c H locs 0 0 Q (F0 m 36 ls [])) :
    ∀ (n : Nat) (z4 : Int64) (z6 : Int32), m_X1_addCrowdTo_L6 fu M q0 q3 n z4 z6 = some out → ∀ (H : Heap) (locs : List Loc) (ls : Array Slot), GW D ca g s M H locs → lv_has ls 7 [(0, .ref (g q0)), (3, .ref (g q3)), (4, .long z4), (6, .int z6)] → W p l e ({ frames := 4, cells := 0, slots := 0, locals := 95 }) s m args below meth c H locs 0 0 Q (F0 m 6 ls []) := by
  have hx := F.1
  have hb := F.2.1
  intro n
  induction n with
  | zero =>
    intro z4 z6 h
    exact absurd h (by simp [m_X1_addCrowdTo_L6])
  | succ n ih =>
    intro z4 z6 h H locs ls hG hl
    rw [m_X1_addCrowdTo_L6] at h
    refine lv_iload hx hb dX1_addCrowdTo_6 (lv_at hl 3 rfl) ?_
    refine lv_bipush (v := 8) hx hb dX1_addCrowdTo_8 (by decide) ?_
    refine lv_icmp_ge (tgt := 36) hx hb dX1_addCrowdTo_10 (by decide) (fun c4 => ?_) (fun c4 => ?_)
    · have h := ite_t h c4
      exact K0 _ _ _ _ (som1 h).symm hG (lv_sub hl [1, 2] rfl)
    · have h := ite_f h c4
      refine lv_lload hx hb dX1_addCrowdTo_13 (lv_at hl 2 rfl) ?_
      refine lv_ldc2 (v := 31) hx hb F.2.2.2.1 (kw369 F.kd) dX1_addCrowdTo_15 ?_
      refine lv_lmul hx hb dX1_addCrowdTo_18 ?_
      refine lv_aload_n hx hb dX1_addCrowdTo_19 rfl (lv_at hl 0 rfl) ?_
      refine lv_aload_n hx hb dX1_addCrowdTo_20 rfl (lv_at hl 1 rfl) ?_
      refine lv_iload hx hb dX1_addCrowdTo_21 (lv_at hl 3 rfl) ?_
      obtain ⟨r6, hc5, h⟩ := cb1_e h
      refine k_i (r_runV F hG (c_X1_crowdNumber l D ca g hq0 hq3 hc5) (kd_lt hq0 (by decide)) (gd1 hq0) rfl (kw370 F.kd) (kw114 F.kd) (ks_X1_crowdNumber F.kd) (kw2 F.kd) (kw116 F.kd) yd_X1_crowdNumber ⟨Nat.le_of_ble_eq_true rfl, Nat.le_of_ble_eq_true rfl⟩ rfl hl.1 rfl (Nat.le_of_ble_eq_true rfl) dX1_addCrowdTo_23 ⟨Nat.le_of_ble_eq_true rfl, Nat.le_of_ble_eq_true rfl⟩) hG (fun H locs hG => ?_)
      refine lv_i2l (v := (r6 : Int32).toInt64) hx hb dX1_addCrowdTo_26 rfl ?_
      refine lv_ladd hx hb dX1_addCrowdTo_27 ?_
      refine lv_topl (fun x7 ex7 => ?_)
      have h := mlet_n h ex7
      refine lv_lstore (lv' := [(4, .long x7), (0, .ref (g q0)), (3, .ref (g q3)), (6, .int z6)]) hx hb dX1_addCrowdTo_28 hl (by decide) rfl (fun ls hl => ?_)
      obtain ⟨x8, ex8, h⟩ := mlet_e h
      refine lv_iinc (v := x8) (lv' := [(6, .int x8), (4, .long x7), (0, .ref (g q0)), (3, .ref (g q3))]) hx hb dX1_addCrowdTo_30 hl (k := 3) rfl (by rw [ex8]; rfl) (by decide) rfl (fun ls hl => ?_)
      refine lv_goto (tgt := 6) hx hb dX1_addCrowdTo_33 (by decide) ?_
      exact ih x7 x8 h _ _ _ hG (lv_sub hl [2, 3, 1, 0] rfl)
set_option maxHeartbeats 4000000 in
set_option maxRecDepth 100000 in
theorem c_X1_addCrowdTo (l : Launch) (D : va_G) (ca : vCA) (g : Nat → Nat) {fu : Nat} {M : Mem} {a0 : Nat} {x1 : Int64} {a2 : Nat} {r : Int64} (ha0 : kd a0 = 1) (ha2 : kd a2 = 0) (h : m_X1_addCrowdTo fu M a0 x1 a2 = some r) : cM l yX1_addCrowdTo cX1_addCrowdTo 7 (some .long) { frames := 4, cells := 0, slots := 0, locals := 95 } D ca g M [.ref (g a0), .long x1, .ref (g a2)] (fun sz => cQl D ca g sz M r) := by
  refine mk_Met (by decide) (Nat.le_of_ble_eq_true rfl) ?_
  intro p e s m below meth c F hr hlk hnm hG ls hl
  have hx := F.1
  have hb := F.2.1
  replace hl : lv_has ls 7 [(0, .ref (g a0)), (1, .long x1), (3, .ref (g a2))] := hl
  unfold m_X1_addCrowdTo at h
  refine lv_lload_n hx hb dX1_addCrowdTo_0 rfl (lv_at hl 1 rfl) ?_
  refine lv_lstore (lv' := [(4, .long x1), (0, .ref (g a0)), (1, .long x1), (3, .ref (g a2))]) hx hb dX1_addCrowdTo_1 hl (by decide) rfl (fun ls hl => ?_)
  refine lv_iconst (v := 0) hx hb dX1_addCrowdTo_3 (by decide) ?_
  refine lv_istore (lv' := [(6, .int 0), (4, .long x1), (0, .ref (g a0)), (1, .long x1), (3, .ref (g a2))]) hx hb dX1_addCrowdTo_4 hl (by decide) rfl (fun ls hl => ?_)
  obtain ⟨o9, ho10, h⟩ := cb1_e h
  refine m_X1_addCrowdTo_L6_w (out := o9) F ha0 ha2 ?_ _ _ _ ho10 _ _ _ hG (lv_sub hl [2, 4, 1, 0] rfl)
  · intro x11 H locs ls eo hG hl
    subst o9
    refine lv_aload_n hx hb dX1_addCrowdTo_36 rfl (lv_at hl 0 rfl) ?_
    refine lv_lload hx hb dX1_addCrowdTo_37 (lv_at hl 1 rfl) ?_
    obtain ⟨r13, hc12, h⟩ := cb1_e h
    refine k_l (r_runVN F hG (c_X0_addOrdersTo l D ca g ha2 hc12) (kd_lt ha2 (by decide)) (gd0 ha2) rfl (kw371 F.kd) (kw373 F.kd) (ks_X0_addOrdersTo F.kd) (kw4 F.kd) (kw374 F.kd) yd_X0_addOrdersTo ⟨Nat.le_of_ble_eq_true rfl, Nat.le_of_ble_eq_true rfl⟩ rfl hl.1 rfl (Nat.le_of_ble_eq_true rfl) dX1_addCrowdTo_39 ⟨Nat.le_of_ble_eq_true rfl, Nat.le_of_ble_eq_true rfl⟩) hG (fun H locs hG => ?_)
    obtain rfl := som1 h
    exact end_l F hr hlk hG dX1_addCrowdTo_42
set_option maxHeartbeats 4000000 in
set_option maxRecDepth 100000 in
theorem m_X1_addPatrolTo_L6_w {p : Program} {l : Launch} {e : Env} {s : State} {m : MethodId} {args : Array Value} {below : List Frame} {meth : Method} {c : Code} {Q : State → Prop} {D : va_G} {ca : vCA} {g : Nat → Nat} {fu : Nat} {M : Mem} {q0 : Nat} {q3 : Nat} {out : Int64} (F : FX p m c cX1_addPatrolTo 7 s D ca g RX1) (hq0 : kd q0 = 1) (hq3 : kd q3 = 2)
    (K0 : ∀ (u4 : Int64) (H : Heap) (locs : List Loc) (ls : Array Slot), out = u4 → GW D ca g s M H locs → lv_has ls 7 [(4, .long u4)] → W p l e ({ frames := 4, cells := 0, slots := 0, locals := 95 }) s m args below meth c H locs 0 0 Q (F0 m 35 ls [])) :
    ∀ (n : Nat) (z4 : Int64) (z6 : Int32), m_X1_addPatrolTo_L6 fu M q0 q3 n z4 z6 = some out → ∀ (H : Heap) (locs : List Loc) (ls : Array Slot), GW D ca g s M H locs → lv_has ls 7 [(0, .ref (g q0)), (3, .ref (g q3)), (4, .long z4), (6, .int z6)] → W p l e ({ frames := 4, cells := 0, slots := 0, locals := 95 }) s m args below meth c H locs 0 0 Q (F0 m 6 ls []) := by
  have hx := F.1
  have hb := F.2.1
  intro n
  induction n with
  | zero =>
    intro z4 z6 h
    exact absurd h (by simp [m_X1_addPatrolTo_L6])
  | succ n ih =>
    intro z4 z6 h H locs ls hG hl
    rw [m_X1_addPatrolTo_L6] at h
    refine lv_iload hx hb dX1_addPatrolTo_6 (lv_at hl 3 rfl) ?_
    refine lv_iconst (v := 4) hx hb dX1_addPatrolTo_8 (by decide) ?_
    refine lv_icmp_ge (tgt := 35) hx hb dX1_addPatrolTo_9 (by decide) (fun c4 => ?_) (fun c4 => ?_)
    · have h := ite_t h c4
      exact K0 _ _ _ _ (som1 h).symm hG (lv_sub hl [2] rfl)
    · have h := ite_f h c4
      refine lv_lload hx hb dX1_addPatrolTo_12 (lv_at hl 2 rfl) ?_
      refine lv_ldc2 (v := 31) hx hb F.2.2.2.1 (kw369 F.kd) dX1_addPatrolTo_14 ?_
      refine lv_lmul hx hb dX1_addPatrolTo_17 ?_
      refine lv_aload_n hx hb dX1_addPatrolTo_18 rfl (lv_at hl 0 rfl) ?_
      refine lv_aload_n hx hb dX1_addPatrolTo_19 rfl (lv_at hl 1 rfl) ?_
      refine lv_iload hx hb dX1_addPatrolTo_20 (lv_at hl 3 rfl) ?_
      obtain ⟨r6, hc5, h⟩ := cb1_e h
      refine k_i (r_runV F hG (c_X1_guardNumber l D ca g hq0 hq3 hc5) (kd_lt hq0 (by decide)) (gd1 hq0) rfl (kw380 F.kd) (kw152 F.kd) (ks_X1_guardNumber F.kd) (kw2 F.kd) (kw153 F.kd) yd_X1_guardNumber ⟨Nat.le_of_ble_eq_true rfl, Nat.le_of_ble_eq_true rfl⟩ rfl hl.1 rfl (Nat.le_of_ble_eq_true rfl) dX1_addPatrolTo_22 ⟨Nat.le_of_ble_eq_true rfl, Nat.le_of_ble_eq_true rfl⟩) hG (fun H locs hG => ?_)
      refine lv_i2l (v := (r6 : Int32).toInt64) hx hb dX1_addPatrolTo_25 rfl ?_
      refine lv_ladd hx hb dX1_addPatrolTo_26 ?_
      refine lv_topl (fun x7 ex7 => ?_)
      have h := mlet_n h ex7
      refine lv_lstore (lv' := [(4, .long x7), (0, .ref (g q0)), (3, .ref (g q3)), (6, .int z6)]) hx hb dX1_addPatrolTo_27 hl (by decide) rfl (fun ls hl => ?_)
      obtain ⟨x8, ex8, h⟩ := mlet_e h
      refine lv_iinc (v := x8) (lv' := [(6, .int x8), (4, .long x7), (0, .ref (g q0)), (3, .ref (g q3))]) hx hb dX1_addPatrolTo_29 hl (k := 3) rfl (by rw [ex8]; rfl) (by decide) rfl (fun ls hl => ?_)
      refine lv_goto (tgt := 6) hx hb dX1_addPatrolTo_32 (by decide) ?_
      exact ih x7 x8 h _ _ _ hG (lv_sub hl [2, 3, 1, 0] rfl)
set_option maxHeartbeats 4000000 in
set_option maxRecDepth 100000 in
theorem c_X1_addPatrolTo (l : Launch) (D : va_G) (ca : vCA) (g : Nat → Nat) {fu : Nat} {M : Mem} {a0 : Nat} {x1 : Int64} {a2 : Nat} {r : Int64} (ha0 : kd a0 = 1) (ha2 : kd a2 = 2) (h : m_X1_addPatrolTo fu M a0 x1 a2 = some r) : cM l yX1_addPatrolTo cX1_addPatrolTo 7 (some .long) { frames := 4, cells := 0, slots := 0, locals := 95 } D ca g M [.ref (g a0), .long x1, .ref (g a2)] (fun sz => cQl D ca g sz M r) := by
  refine mk_Met (by decide) (Nat.le_of_ble_eq_true rfl) ?_
  intro p e s m below meth c F hr hlk hnm hG ls hl
  have hx := F.1
  have hb := F.2.1
  replace hl : lv_has ls 7 [(0, .ref (g a0)), (1, .long x1), (3, .ref (g a2))] := hl
  unfold m_X1_addPatrolTo at h
  refine lv_lload_n hx hb dX1_addPatrolTo_0 rfl (lv_at hl 1 rfl) ?_
  refine lv_lstore (lv' := [(4, .long x1), (0, .ref (g a0)), (1, .long x1), (3, .ref (g a2))]) hx hb dX1_addPatrolTo_1 hl (by decide) rfl (fun ls hl => ?_)
  refine lv_iconst (v := 0) hx hb dX1_addPatrolTo_3 (by decide) ?_
  refine lv_istore (lv' := [(6, .int 0), (4, .long x1), (0, .ref (g a0)), (1, .long x1), (3, .ref (g a2))]) hx hb dX1_addPatrolTo_4 hl (by decide) rfl (fun ls hl => ?_)
  obtain ⟨o9, ho10, h⟩ := cb1_e h
  refine m_X1_addPatrolTo_L6_w (out := o9) F ha0 ha2 ?_ _ _ _ ho10 _ _ _ hG (lv_sub hl [2, 4, 1, 0] rfl)
  · intro x11 H locs ls eo hG hl
    subst o9
    refine lv_lload hx hb dX1_addPatrolTo_35 (lv_at hl 0 rfl) ?_
    obtain rfl := som1 h
    exact end_l F hr hlk hG dX1_addPatrolTo_37
set_option maxHeartbeats 4000000 in
set_option maxRecDepth 100000 in
theorem m_X1_become_L13_w {p : Program} {l : Launch} {e : Env} {s : State} {m : MethodId} {args : Array Value} {below : List Frame} {meth : Method} {c : Code} {Q : State → Prop} {D : va_G} {ca : vCA} {g : Nat → Nat} {fu : Nat} {q0 : Nat} {q1 : Nat} {out : Mem} (F : FX p m c cX1_become 3 s D ca g RX1) (hq0 : kd q0 = 1) (hq1 : kd q1 = 1)
    (K0 : ∀ (M1 : Mem) (H : Heap) (locs : List Loc) (ls : Array Slot), out = M1 → GW D ca g s M1 H locs → lv_has ls 3 [(0, .ref (g q0)), (1, .ref (g q1))] → W p l e ({ frames := 2, cells := 0, slots := 0, locals := 61 }) s m args below meth c H locs 0 0 Q (F0 m 40 ls [])) :
    ∀ (n : Nat) (M : Mem) (z2 : Int32), m_X1_become_L13 fu q0 q1 n M z2 = some out → ∀ (H : Heap) (locs : List Loc) (ls : Array Slot), GW D ca g s M H locs → lv_has ls 3 [(0, .ref (g q0)), (1, .ref (g q1)), (2, .int z2)] → W p l e ({ frames := 2, cells := 0, slots := 0, locals := 61 }) s m args below meth c H locs 0 0 Q (F0 m 13 ls []) := by
  have hx := F.1
  have hb := F.2.1
  intro n
  induction n with
  | zero =>
    intro M z2 h
    exact absurd h (by simp [m_X1_become_L13])
  | succ n ih =>
    intro M z2 h H locs ls hG hl
    rw [m_X1_become_L13] at h
    refine lv_iload_n hx hb dX1_become_13 rfl (lv_at hl 2 rfl) ?_
    refine lv_bipush (v := 6) hx hb dX1_become_14 (by decide) ?_
    refine lv_icmp_ge (tgt := 40) hx hb dX1_become_16 (by decide) (fun c8 => ?_) (fun c8 => ?_)
    · have h := ite_t h c8
      exact K0 _ _ _ _ (som1 h).symm hG (lv_sub hl [0, 1] rfl)
    · have h := ite_f h c8
      refine lv_aload_n hx hb dX1_become_19 rfl (lv_at hl 0 rfl) ?_
      have hk9 := kt_crowds hq0
      refine xg1 F hG hq0 1 (by decide) (kw468 F.kd) (v := .ref (g (q0 + 3))) rfl dX1_become_20 ?_
      refine lv_iload_n hx hb dX1_become_23 rfl (lv_at hl 2 rfl) ?_
      obtain ⟨hi10, h⟩ := chk_e h
      have hk11 := kt_elC hk9 hi10
      refine r_aldC F hG hk9 hi10 dX1_become_24 ?_
      refine lv_aload_n hx hb dX1_become_25 rfl (lv_at hl 1 rfl) ?_
      have hk12 := kt_crowds hq1
      refine xg1 F hG hq1 1 (by decide) (kw468 F.kd) (v := .ref (g (q1 + 3))) rfl dX1_become_26 ?_
      refine lv_iload_n hx hb dX1_become_29 rfl (lv_at hl 2 rfl) ?_
      obtain ⟨hi13, h⟩ := chk_e h
      have hk14 := kt_elC hk12 hi13
      refine r_aldC F hG hk12 hi13 dX1_become_30 ?_
      obtain ⟨M17, hc15, h⟩ := cb1_e h
      refine k_v (r_runVN F hG (c_X0_become l D ca g hk11 hk14 hc15) (kd_lt hk11 (by decide)) (gd0 hk11) rfl (kw332 F.kd) (kw334 F.kd) (ks_X0_become F.kd) (kw4 F.kd) (kw335 F.kd) yd_X0_become ⟨Nat.le_of_ble_eq_true rfl, Nat.le_of_ble_eq_true rfl⟩ rfl hl.1 rfl (Nat.le_of_ble_eq_true rfl) dX1_become_31 ⟨Nat.le_of_ble_eq_true rfl, Nat.le_of_ble_eq_true rfl⟩) hG (fun H locs hG => ?_)
      obtain ⟨x18, ex18, h⟩ := mlet_e h
      refine lv_iinc (v := x18) (lv' := [(2, .int x18), (0, .ref (g q0)), (1, .ref (g q1))]) hx hb dX1_become_34 hl (k := 2) rfl (by rw [ex18]; rfl) (by decide) rfl (fun ls hl => ?_)
      refine lv_goto (tgt := 13) hx hb dX1_become_37 (by decide) ?_
      exact ih M17 x18 h _ _ _ hG (lv_sub hl [1, 2, 0] rfl)
set_option maxHeartbeats 4000000 in
set_option maxRecDepth 100000 in
theorem m_X1_become_L50_w {p : Program} {l : Launch} {e : Env} {s : State} {m : MethodId} {args : Array Value} {below : List Frame} {meth : Method} {c : Code} {Q : State → Prop} {D : va_G} {ca : vCA} {g : Nat → Nat} {fu : Nat} {q0 : Nat} {q1 : Nat} {out : Mem} (F : FX p m c cX1_become 3 s D ca g RX1) (hq0 : kd q0 = 1) (hq1 : kd q1 = 1)
    (K0 : ∀ (M1 : Mem) (H : Heap) (locs : List Loc) (ls : Array Slot), out = M1 → GW D ca g s M1 H locs → lv_has ls 3 [(0, .ref (g q0)), (1, .ref (g q1))] → W p l e ({ frames := 2, cells := 0, slots := 0, locals := 61 }) s m args below meth c H locs 0 0 Q (F0 m 76 ls [])) :
    ∀ (n : Nat) (M : Mem) (z2 : Int32), m_X1_become_L50 fu q0 q1 n M z2 = some out → ∀ (H : Heap) (locs : List Loc) (ls : Array Slot), GW D ca g s M H locs → lv_has ls 3 [(0, .ref (g q0)), (1, .ref (g q1)), (2, .int z2)] → W p l e ({ frames := 2, cells := 0, slots := 0, locals := 61 }) s m args below meth c H locs 0 0 Q (F0 m 50 ls []) := by
  have hx := F.1
  have hb := F.2.1
  intro n
  induction n with
  | zero =>
    intro M z2 h
    exact absurd h (by simp [m_X1_become_L50])
  | succ n ih =>
    intro M z2 h H locs ls hG hl
    rw [m_X1_become_L50] at h
    refine lv_iload_n hx hb dX1_become_50 rfl (lv_at hl 2 rfl) ?_
    refine lv_iconst (v := 3) hx hb dX1_become_51 (by decide) ?_
    refine lv_icmp_ge (tgt := 76) hx hb dX1_become_52 (by decide) (fun c23 => ?_) (fun c23 => ?_)
    · have h := ite_t h c23
      exact K0 _ _ _ _ (som1 h).symm hG (lv_sub hl [0, 1] rfl)
    · have h := ite_f h c23
      refine lv_aload_n hx hb dX1_become_55 rfl (lv_at hl 0 rfl) ?_
      have hk24 := kt_patrols hq0
      refine xg1 F hG hq0 3 (by decide) (kw472 F.kd) (v := .ref (g (q0 + 4))) rfl dX1_become_56 ?_
      refine lv_iload_n hx hb dX1_become_59 rfl (lv_at hl 2 rfl) ?_
      obtain ⟨hi25, h⟩ := chk_e h
      have hk26 := kt_elP hk24 hi25
      refine r_aldP F hG hk24 hi25 dX1_become_60 ?_
      refine lv_aload_n hx hb dX1_become_61 rfl (lv_at hl 1 rfl) ?_
      have hk27 := kt_patrols hq1
      refine xg1 F hG hq1 3 (by decide) (kw472 F.kd) (v := .ref (g (q1 + 4))) rfl dX1_become_62 ?_
      refine lv_iload_n hx hb dX1_become_65 rfl (lv_at hl 2 rfl) ?_
      obtain ⟨hi28, h⟩ := chk_e h
      have hk29 := kt_elP hk27 hi28
      refine r_aldP F hG hk27 hi28 dX1_become_66 ?_
      obtain ⟨M32, hc30, h⟩ := cb1_e h
      refine k_v (r_runVN F hG (c_X2_become l D ca g hk26 hk29 hc30) (kd_lt hk26 (by decide)) (gd2 hk26) rfl (kw336 F.kd) (kw338 F.kd) (ks_X2_become F.kd) (kw5 F.kd) (kw339 F.kd) yd_X2_become ⟨Nat.le_of_ble_eq_true rfl, Nat.le_of_ble_eq_true rfl⟩ rfl hl.1 rfl (Nat.le_of_ble_eq_true rfl) dX1_become_67 ⟨Nat.le_of_ble_eq_true rfl, Nat.le_of_ble_eq_true rfl⟩) hG (fun H locs hG => ?_)
      obtain ⟨x33, ex33, h⟩ := mlet_e h
      refine lv_iinc (v := x33) (lv' := [(2, .int x33), (0, .ref (g q0)), (1, .ref (g q1))]) hx hb dX1_become_70 hl (k := 2) rfl (by rw [ex33]; rfl) (by decide) rfl (fun ls hl => ?_)
      refine lv_goto (tgt := 50) hx hb dX1_become_73 (by decide) ?_
      exact ih M32 x33 h _ _ _ hG (lv_sub hl [1, 2, 0] rfl)
set_option maxHeartbeats 4000000 in
set_option maxRecDepth 100000 in
theorem c_X1_become (l : Launch) (D : va_G) (ca : vCA) (g : Nat → Nat) {fu : Nat} {M : Mem} {a0 : Nat} {a1 : Nat} {M' : Mem} (ha0 : kd a0 = 1) (ha1 : kd a1 = 1) (h : m_X1_become fu M a0 a1 = some M') : cM l yX1_become cX1_become 3 none { frames := 2, cells := 0, slots := 0, locals := 61 } D ca g M [.ref (g a0), .ref (g a1)] (fun sz => cQv D ca g sz M') := by
  refine mk_Met (by decide) (Nat.le_of_ble_eq_true rfl) ?_
  intro p e s m below meth c F hr hlk hnm hG ls hl
  have hx := F.1
  have hb := F.2.1
  replace hl : lv_has ls 3 [(0, .ref (g a0)), (1, .ref (g a1))] := hl
  unfold m_X1_become at h
  refine lv_aload_n hx hb dX1_become_0 rfl (lv_at hl 0 rfl) ?_
  have hk3 := kt_quarter ha0
  refine xg1 F hG ha0 0 (by decide) (kw466 F.kd) (v := .ref (g (a0 + 1))) rfl dX1_become_1 ?_
  refine lv_aload_n hx hb dX1_become_4 rfl (lv_at hl 1 rfl) ?_
  have hk4 := kt_quarter ha1
  refine xg1 F hG ha1 0 (by decide) (kw466 F.kd) (v := .ref (g (a1 + 1))) rfl dX1_become_5 ?_
  obtain ⟨M7, hc5, h⟩ := cb1_e h
  refine k_v (r_runVN F hG (c_X3_become l D ca g hk3 hk4 hc5) (kd_lt hk3 (by decide)) (gd3 hk3) rfl (kw327 F.kd) (kw329 F.kd) (ks_X3_become F.kd) (kw3 F.kd) (kw330 F.kd) yd_X3_become ⟨Nat.le_of_ble_eq_true rfl, Nat.le_of_ble_eq_true rfl⟩ rfl hl.1 rfl (Nat.le_of_ble_eq_true rfl) dX1_become_8 ⟨Nat.le_of_ble_eq_true rfl, Nat.le_of_ble_eq_true rfl⟩) hG (fun H locs hG => ?_)
  refine lv_iconst (v := 0) hx hb dX1_become_11 (by decide) ?_
  refine lv_istore_n (lv' := [(2, .int 0), (0, .ref (g a0)), (1, .ref (g a1))]) hx hb dX1_become_12 rfl hl (by decide) rfl (fun ls hl => ?_)
  obtain ⟨o19, ho20, h⟩ := cb1_e h
  refine m_X1_become_L13_w (out := o19) F ha0 ha1 ?_ _ _ _ ho20 _ _ _ hG (lv_sub hl [1, 2, 0] rfl)
  · intro M21 H locs ls eo hG hl
    subst o19
    refine lv_aload_n hx hb dX1_become_40 rfl (lv_at hl 0 rfl) ?_
    refine lv_aload_n hx hb dX1_become_41 rfl (lv_at hl 1 rfl) ?_
    refine xg1 F hG ha1 2 (by decide) (kw470 F.kd) (v := .int (M21 a1 2)) rfl dX1_become_42 ?_
    obtain ⟨M22, eM22, h⟩ := mlet_e h
    refine xp1 F hG ha0 eM22 rfl (by decide) (kw470 F.kd) rfl rfl rfl dX1_become_45 (fun H locs hG => ?_)
    refine lv_iconst (v := 0) hx hb dX1_become_48 (by decide) ?_
    refine lv_istore_n (lv' := [(2, .int 0), (0, .ref (g a0)), (1, .ref (g a1))]) hx hb dX1_become_49 rfl hl (by decide) rfl (fun ls hl => ?_)
    obtain ⟨o34, ho35, h⟩ := cb1_e h
    refine m_X1_become_L50_w (out := o34) F ha0 ha1 ?_ _ _ _ ho35 _ _ _ hG (lv_sub hl [1, 2, 0] rfl)
    · intro M36 H locs ls eo hG hl
      subst o34
      refine lv_aload_n hx hb dX1_become_76 rfl (lv_at hl 0 rfl) ?_
      refine lv_aload_n hx hb dX1_become_77 rfl (lv_at hl 1 rfl) ?_
      refine xg1 F hG ha1 4 (by decide) (kw474 F.kd) (v := .int (M36 a1 4)) rfl dX1_become_78 ?_
      obtain ⟨M37, eM37, h⟩ := mlet_e h
      refine xp1 F hG ha0 eM37 rfl (by decide) (kw474 F.kd) rfl rfl rfl dX1_become_81 (fun H locs hG => ?_)
      refine lv_aload_n hx hb dX1_become_84 rfl (lv_at hl 0 rfl) ?_
      refine lv_aload_n hx hb dX1_become_85 rfl (lv_at hl 1 rfl) ?_
      refine xg1 F hG ha1 5 (by decide) (kw476 F.kd) (v := .int (M37 a1 5)) rfl dX1_become_86 ?_
      obtain ⟨M38, eM38, h⟩ := mlet_e h
      refine xp1 F hG ha0 eM38 rfl (by decide) (kw476 F.kd) rfl rfl rfl dX1_become_89 (fun H locs hG => ?_)
      obtain rfl := som1 h
      exact end_v F hr hlk hG dX1_become_92

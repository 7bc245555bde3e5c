set_option maxHeartbeats 4000000 in
set_option maxRecDepth 100000 in
theorem c_X7_crowdTold (l : Launch) (D : va_G) (ca : vCA) (g : Nat → Nat) {fu : Nat} {M : Mem} {a0 : Nat} {x1 : Int32} {x2 : Int32} {r : Int32} (ha0 : kd a0 = 7) (h : m_X7_crowdTold fu M a0 x1 x2 = some r) : cM l yX7_crowdTold cX7_crowdTold 3 (some .int) { frames := 3, cells := 0, slots := 0, locals := 71 } D ca g M [.ref (g a0), .int x1, .int x2] (fun sz => cQi D ca g sz M r) := by
  refine mk_Met (by decide) (Nat.le_of_ble_eq_true rfl) ?_
  intro p e s m below meth c F hr hlk hnm hG ls hl
  have hx := F.1
  have hb := F.2.1
  replace hl : lv_has ls 3 [(0, .ref (g a0)), (1, .int x1), (2, .int x2)] := hl
  unfold m_X7_crowdTold at h
  refine lv_iload_n hx hb dX7_crowdTold_0 rfl (lv_at hl 2 rfl) ?_
  by_cases c4 : x2 = 0
  · have h := ite_t h c4
    refine lv_tableIn (off := 43) (tgt := 44) hx hb dX7_crowdTold_1 (by rw [c4]; decide) (by rw [c4]; decide) (by rw [c4]; rfl) (by decide) ?_
    refine lv_aload_n hx hb dX7_crowdTold_44 rfl (lv_at hl 0 rfl) ?_
    have hk5 := (show kd 49 = 6 from rfl)
    refine xg7 F hG ha0 7 (by decide) (kw696 F.kd) (v := .ref (g 49)) rfl dX7_crowdTold_45 ?_
    have hk6 := kt_s2 hk5
    refine xg6N F hG hk5 2 (by decide) (kw645 F.kd) (v := .ref (g (49 + 2))) rfl dX7_crowdTold_48 ?_
    refine lv_iload_n hx hb dX7_crowdTold_51 rfl (lv_at hl 1 rfl) ?_
    obtain ⟨hi7, h⟩ := chk_e h
    refine r_ald F hG hk6 hi7 dX7_crowdTold_52 ?_
    refine lv_bipush (v := 12) hx hb dX7_crowdTold_53 (by decide) ?_
    obtain ⟨x8, ex8, h⟩ := mlet_e h
    rw [← ex8]
    refine lv_irem hx hb dX7_crowdTold_55 (by decide) ?_
    obtain rfl := som1 h
    exact end_i F hr hlk hG dX7_crowdTold_56
  have h := ite_f h c4
  by_cases c9 : x2 = 1
  · have h := ite_t h c9
    refine lv_tableIn (off := 56) (tgt := 57) hx hb dX7_crowdTold_1 (by rw [c9]; decide) (by rw [c9]; decide) (by rw [c9]; rfl) (by decide) ?_
    refine lv_aload_n hx hb dX7_crowdTold_57 rfl (lv_at hl 0 rfl) ?_
    have hk10 := (show kd 49 = 6 from rfl)
    refine xg7 F hG ha0 7 (by decide) (kw696 F.kd) (v := .ref (g 49)) rfl dX7_crowdTold_58 ?_
    have hk11 := kt_s2 hk10
    refine xg6N F hG hk10 2 (by decide) (kw645 F.kd) (v := .ref (g (49 + 2))) rfl dX7_crowdTold_61 ?_
    refine lv_iload_n hx hb dX7_crowdTold_64 rfl (lv_at hl 1 rfl) ?_
    obtain ⟨hi12, h⟩ := chk_e h
    refine r_ald F hG hk11 hi12 dX7_crowdTold_65 ?_
    refine lv_bipush (v := 12) hx hb dX7_crowdTold_66 (by decide) ?_
    refine lv_idiv hx hb dX7_crowdTold_68 (by decide) ?_
    obtain rfl := som1 h
    exact end_i F hr hlk hG dX7_crowdTold_69
  have h := ite_f h c9
  by_cases c13 : x2 = 2
  · have h := ite_t h c13
    refine lv_tableIn (off := 69) (tgt := 70) hx hb dX7_crowdTold_1 (by rw [c13]; decide) (by rw [c13]; decide) (by rw [c13]; rfl) (by decide) ?_
    refine lv_aload_n hx hb dX7_crowdTold_70 rfl (lv_at hl 0 rfl) ?_
    have hk14 := (show kd 49 = 6 from rfl)
    refine xg7 F hG ha0 7 (by decide) (kw696 F.kd) (v := .ref (g 49)) rfl dX7_crowdTold_71 ?_
    have hk15 := kt_s3 hk14
    refine xg6N F hG hk14 3 (by decide) (kw647 F.kd) (v := .ref (g (49 + 3))) rfl dX7_crowdTold_74 ?_
    refine lv_iload_n hx hb dX7_crowdTold_77 rfl (lv_at hl 1 rfl) ?_
    obtain ⟨hi16, h⟩ := chk_e h
    refine r_ald F hG hk15 hi16 dX7_crowdTold_78 ?_
    obtain rfl := som1 h
    exact end_i F hr hlk hG dX7_crowdTold_79
  have h := ite_f h c13
  by_cases c17 : x2 = 3
  · have h := ite_t h c17
    refine lv_tableIn (off := 79) (tgt := 80) hx hb dX7_crowdTold_1 (by rw [c17]; decide) (by rw [c17]; decide) (by rw [c17]; rfl) (by decide) ?_
    refine lv_aload_n hx hb dX7_crowdTold_80 rfl (lv_at hl 0 rfl) ?_
    have hk18 := (show kd 49 = 6 from rfl)
    refine xg7 F hG ha0 7 (by decide) (kw696 F.kd) (v := .ref (g 49)) rfl dX7_crowdTold_81 ?_
    have hk19 := kt_s4 hk18
    refine xg6N F hG hk18 4 (by decide) (kw649 F.kd) (v := .ref (g (49 + 4))) rfl dX7_crowdTold_84 ?_
    refine lv_iload_n hx hb dX7_crowdTold_87 rfl (lv_at hl 1 rfl) ?_
    obtain ⟨hi20, h⟩ := chk_e h
    refine r_ald F hG hk19 hi20 dX7_crowdTold_88 ?_
    obtain rfl := som1 h
    exact end_i F hr hlk hG dX7_crowdTold_89
  have h := ite_f h c17
  by_cases c21 : x2 = 4
  · have h := ite_t h c21
    refine lv_tableIn (off := 89) (tgt := 90) hx hb dX7_crowdTold_1 (by rw [c21]; decide) (by rw [c21]; decide) (by rw [c21]; rfl) (by decide) ?_
    refine lv_aload_n hx hb dX7_crowdTold_90 rfl (lv_at hl 0 rfl) ?_
    have hk22 := (show kd 49 = 6 from rfl)
    refine xg7 F hG ha0 7 (by decide) (kw696 F.kd) (v := .ref (g 49)) rfl dX7_crowdTold_91 ?_
    have hk23 := kt_s5 hk22
    refine xg6N F hG hk22 5 (by decide) (kw651 F.kd) (v := .ref (g (49 + 5))) rfl dX7_crowdTold_94 ?_
    refine lv_iload_n hx hb dX7_crowdTold_97 rfl (lv_at hl 1 rfl) ?_
    obtain ⟨hi24, h⟩ := chk_e h
    refine r_ald F hG hk23 hi24 dX7_crowdTold_98 ?_
    obtain rfl := som1 h
    exact end_i F hr hlk hG dX7_crowdTold_99
  have h := ite_f h c21
  by_cases c25 : x2 = 5
  · have h := ite_t h c25
    refine lv_tableIn (off := 99) (tgt := 100) hx hb dX7_crowdTold_1 (by rw [c25]; decide) (by rw [c25]; decide) (by rw [c25]; rfl) (by decide) ?_
    refine lv_aload_n hx hb dX7_crowdTold_100 rfl (lv_at hl 0 rfl) ?_
    have hk26 := (show kd 49 = 6 from rfl)
    refine xg7 F hG ha0 7 (by decide) (kw696 F.kd) (v := .ref (g 49)) rfl dX7_crowdTold_101 ?_
    have hk27 := kt_s5 hk26
    refine xg6N F hG hk26 5 (by decide) (kw651 F.kd) (v := .ref (g (49 + 5))) rfl dX7_crowdTold_104 ?_
    refine lv_iload_n hx hb dX7_crowdTold_107 rfl (lv_at hl 1 rfl) ?_
    obtain ⟨hi28, h⟩ := chk_e h
    refine r_ald F hG hk27 hi28 dX7_crowdTold_108 ?_
    refine lv_if_ne (tgt := 116) hx hb dX7_crowdTold_109 (by decide) (fun c29 => ?_) (fun c29 => ?_)
    · have h := ite_f h c29
      refine lv_aload_n hx hb dX7_crowdTold_116 rfl (lv_at hl 0 rfl) ?_
      have hk30 := (show kd 49 = 6 from rfl)
      refine xg7 F hG ha0 7 (by decide) (kw696 F.kd) (v := .ref (g 49)) rfl dX7_crowdTold_117 ?_
      have hk31 := kt_s6 hk30
      refine xg6N F hG hk30 6 (by decide) (kw653 F.kd) (v := .ref (g (49 + 6))) rfl dX7_crowdTold_120 ?_
      refine lv_bipush (v := 24) hx hb dX7_crowdTold_123 (by decide) ?_
      refine lv_iload_n hx hb dX7_crowdTold_125 rfl (lv_at hl 1 rfl) ?_
      refine lv_imul hx hb dX7_crowdTold_126 ?_
      obtain ⟨hi32, h⟩ := chk_e h
      refine r_ald F hG hk31 hi32 dX7_crowdTold_127 ?_
      obtain rfl := som1 h
      exact end_i F hr hlk hG dX7_crowdTold_128
    · have h := ite_t h c29
      refine lv_iconst (v := (-1)) hx hb dX7_crowdTold_112 (by decide) ?_
      refine lv_goto (tgt := 128) hx hb dX7_crowdTold_113 (by decide) ?_
      obtain rfl := som1 h
      exact end_i F hr hlk hG dX7_crowdTold_128
  have h := ite_f h c25
  by_cases c33 : x2 = 6
  · have h := ite_t h c33
    refine lv_tableIn (off := 128) (tgt := 129) hx hb dX7_crowdTold_1 (by rw [c33]; decide) (by rw [c33]; decide) (by rw [c33]; rfl) (by decide) ?_
    refine lv_aload_n hx hb dX7_crowdTold_129 rfl (lv_at hl 0 rfl) ?_
    have hk34 := (show kd 49 = 6 from rfl)
    refine xg7 F hG ha0 7 (by decide) (kw696 F.kd) (v := .ref (g 49)) rfl dX7_crowdTold_130 ?_
    have hk35 := kt_s7 hk34
    refine xg6N F hG hk34 7 (by decide) (kw655 F.kd) (v := .ref (g (49 + 7))) rfl dX7_crowdTold_133 ?_
    refine lv_iload_n hx hb dX7_crowdTold_136 rfl (lv_at hl 1 rfl) ?_
    obtain ⟨hi36, h⟩ := chk_e h
    refine r_ald F hG hk35 hi36 dX7_crowdTold_137 ?_
    obtain rfl := som1 h
    exact end_i F hr hlk hG dX7_crowdTold_138
  have h := ite_f h c33
  refine lv_tableOut (tgt := 139) hx hb dX7_crowdTold_1 (tso6 c4 c9 c13 c17 c21 c25 c33) (by decide) ?_
  refine lv_aload_n hx hb dX7_crowdTold_139 rfl (lv_at hl 0 rfl) ?_
  have hk37 := (show kd 49 = 6 from rfl)
  refine xg7 F hG ha0 7 (by decide) (kw696 F.kd) (v := .ref (g 49)) rfl dX7_crowdTold_140 ?_
  refine lv_iload_n hx hb dX7_crowdTold_143 rfl (lv_at hl 1 rfl) ?_
  obtain ⟨r39, hc38, h⟩ := cb1_e h
  refine k_i (r_runV F hG (c_X6_seenBy l D ca g hk37 hc38) (kd_lt hk37 (by decide)) (gd6 hk37) rfl (kw775 F.kd) (kw776 F.kd) (kw777 F.kd) (kw8 F.kd) (kw778 F.kd) yd_X6_seenBy ⟨Nat.le_of_ble_eq_true rfl, Nat.le_of_ble_eq_true rfl⟩ rfl hl.1 rfl (Nat.le_of_ble_eq_true rfl) dX7_crowdTold_144 ⟨Nat.le_of_ble_eq_true rfl, Nat.le_of_ble_eq_true rfl⟩) hG (fun H locs hG => ?_)
  obtain rfl := som1 h
  exact end_i F hr hlk hG dX7_crowdTold_147
set_option maxHeartbeats 4000000 in
set_option maxRecDepth 100000 in
theorem c_X7_crowd (l : Launch) (D : va_G) (ca : vCA) (g : Nat → Nat) {fu : Nat} {M : Mem} {a0 : Nat} {x1 : Int32} {x2 : Int32} {M' : Mem} {r : Int32} (ha0 : kd a0 = 7) (h : m_X7_crowd fu M a0 x1 x2 = some (M', r)) : cM l yX7_crowd cX7_crowd 3 (some .int) { frames := 4, cells := 0, slots := 0, locals := 93 } D ca g M [.ref (g a0), .int x1, .int x2] (fun sz => cQi D ca g sz M' r) := by
  refine mk_Met (by decide) (Nat.le_of_ble_eq_true rfl) ?_
  intro p e s m below meth c F hr hlk hnm hG ls hl
  have hx := F.1
  have hb := F.2.1
  replace hl : lv_has ls 3 [(0, .ref (g a0)), (1, .int x1), (2, .int x2)] := hl
  unfold m_X7_crowd at h
  refine lv_aload_n hx hb dX7_crowd_0 rfl (lv_at hl 0 rfl) ?_
  refine lv_iconst (v := 0) hx hb dX7_crowd_1 (by decide) ?_
  obtain ⟨M4, eM4, h⟩ := mlet_e h
  refine xp7 F hG ha0 eM4 rfl (by decide) (kw684 F.kd) rfl rfl rfl dX7_crowd_2 (fun H locs hG => ?_)
  refine lv_aload_n hx hb dX7_crowd_5 rfl (lv_at hl 0 rfl) ?_
  refine lv_iload_n hx hb dX7_crowd_6 rfl (lv_at hl 1 rfl) ?_
  obtain ⟨r6, hc5, h⟩ := cb1_e h
  refine k_i (r_runV F hG (c_X7_isCrowd l D ca g ha0 hc5) (kd_lt ha0 (by decide)) (gd7 ha0) rfl (kw755 F.kd) (kw757 F.kd) (ks_X7_isCrowd F.kd) (kw7 F.kd) (kw758 F.kd) yd_X7_isCrowd ⟨Nat.le_of_ble_eq_true rfl, Nat.le_of_ble_eq_true rfl⟩ rfl hl.1 rfl (Nat.le_of_ble_eq_true rfl) dX7_crowd_7 ⟨Nat.le_of_ble_eq_true rfl, Nat.le_of_ble_eq_true rfl⟩) hG (fun H locs hG => ?_)
  refine lv_if_eq (tgt := 32) hx hb dX7_crowd_10 (by decide) (fun c7 => ?_) (fun c7 => ?_)
  · have h := ite_t h c7
    refine lv_aload_n hx hb dX7_crowd_32 rfl (lv_at hl 0 rfl) ?_
    refine lv_iconst (v := 1) hx hb dX7_crowd_33 (by decide) ?_
    obtain ⟨M10, r9, hc8, h⟩ := cb2_e h
    refine k_i (r_runV F hG (c_X7_no l D ca g ha0 hc8) (kd_lt ha0 (by decide)) (gd7 ha0) rfl (kw731 F.kd) (kw733 F.kd) (ks_X7_no F.kd) (kw7 F.kd) (kw734 F.kd) yd_X7_no ⟨Nat.le_of_ble_eq_true rfl, Nat.le_of_ble_eq_true rfl⟩ rfl hl.1 rfl (Nat.le_of_ble_eq_true rfl) dX7_crowd_34 ⟨Nat.le_of_ble_eq_true rfl, Nat.le_of_ble_eq_true rfl⟩) hG (fun H locs hG => ?_)
    obtain ⟨rfl, rfl⟩ := som2 h
    exact end_i F hr hlk hG dX7_crowd_37
  · have h := ite_f h c7
    refine lv_iload_n hx hb dX7_crowd_13 rfl (lv_at hl 2 rfl) ?_
    refine lv_iconst (v := 0) hx hb dX7_crowd_14 (by decide) ?_
    refine lv_bipush (v := 7) hx hb dX7_crowd_15 (by decide) ?_
    obtain ⟨r12, hc11, h⟩ := cb1_e h
    refine k_i (r_runS F hG (c_X7_isIn l D ca g hc11) (kw728 F.kd) (kw729 F.kd) (kw7 F.kd) (kw730 F.kd) yd_X7_isIn ⟨Nat.le_of_ble_eq_true rfl, Nat.le_of_ble_eq_true rfl⟩ rfl hl.1 rfl (Nat.le_of_ble_eq_true rfl) dX7_crowd_17 ⟨Nat.le_of_ble_eq_true rfl, Nat.le_of_ble_eq_true rfl⟩) hG (fun H locs hG => ?_)
    refine lv_if_eq (tgt := 32) hx hb dX7_crowd_20 (by decide) (fun c13 => ?_) (fun c13 => ?_)
    · have h := ite_t h c13
      refine lv_aload_n hx hb dX7_crowd_32 rfl (lv_at hl 0 rfl) ?_
      refine lv_iconst (v := 1) hx hb dX7_crowd_33 (by decide) ?_
      obtain ⟨M16, r15, hc14, h⟩ := cb2_e h
      refine k_i (r_runV F hG (c_X7_no l D ca g ha0 hc14) (kd_lt ha0 (by decide)) (gd7 ha0) rfl (kw731 F.kd) (kw733 F.kd) (ks_X7_no F.kd) (kw7 F.kd) (kw734 F.kd) yd_X7_no ⟨Nat.le_of_ble_eq_true rfl, Nat.le_of_ble_eq_true rfl⟩ rfl hl.1 rfl (Nat.le_of_ble_eq_true rfl) dX7_crowd_34 ⟨Nat.le_of_ble_eq_true rfl, Nat.le_of_ble_eq_true rfl⟩) hG (fun H locs hG => ?_)
      obtain ⟨rfl, rfl⟩ := som2 h
      exact end_i F hr hlk hG dX7_crowd_37
    · have h := ite_f h c13
      refine lv_aload_n hx hb dX7_crowd_23 rfl (lv_at hl 0 rfl) ?_
      refine lv_iload_n hx hb dX7_crowd_24 rfl (lv_at hl 1 rfl) ?_
      refine lv_iload_n hx hb dX7_crowd_25 rfl (lv_at hl 2 rfl) ?_
      obtain ⟨r18, hc17, h⟩ := cb1_e h
      refine k_i (r_runV F hG (c_X7_crowdTold l D ca g ha0 hc17) (kd_lt ha0 (by decide)) (gd7 ha0) rfl (kw771 F.kd) (kw773 F.kd) (ks_X7_crowdTold F.kd) (kw7 F.kd) (kw774 F.kd) yd_X7_crowdTold ⟨Nat.le_of_ble_eq_true rfl, Nat.le_of_ble_eq_true rfl⟩ rfl hl.1 rfl (Nat.le_of_ble_eq_true rfl) dX7_crowd_26 ⟨Nat.le_of_ble_eq_true rfl, Nat.le_of_ble_eq_true rfl⟩) hG (fun H locs hG => ?_)
      refine lv_goto (tgt := 37) hx hb dX7_crowd_29 (by decide) ?_
      obtain ⟨rfl, rfl⟩ := som2 h
      exact end_i F hr hlk hG dX7_crowd_37
set_option maxHeartbeats 4000000 in
set_option maxRecDepth 100000 in
theorem m_X7_guardTold_L5_w {p : Program} {l : Launch} {e : Env} {s : State} {m : MethodId} {args : Array Value} {below : List Frame} {meth : Method} {c : Code} {Q : State → Prop} {D : va_G} {ca : vCA} {g : Nat → Nat} {fu : Nat} {M : Mem} {q0 : Nat} {y1 : Int32} {y2 : Int32} {out : Int32} (F : FX p m c cX7_guardTold 5 s D ca g RX7) (hq0 : kd q0 = 7)
    (K0 : ∀ (u3 : Int32) (H : Heap) (locs : List Loc) (ls : Array Slot), out = u3 → GW D ca g s M H locs → lv_has ls 5 [(0, .ref (g q0)), (1, .int y1), (2, .int y2), (3, .int u3)] → W p l e ({ frames := 2, cells := 0, slots := 0, locals := 48 }) s m args below meth c H locs 0 0 Q (F0 m 41 ls [])) :
    ∀ (n : Nat) (z3 : Int32) (z4 : Int32), m_X7_guardTold_L5 fu M q0 y1 y2 n z3 z4 = some out → ∀ (H : Heap) (locs : List Loc) (ls : Array Slot), GW D ca g s M H locs → lv_has ls 5 [(0, .ref (g q0)), (1, .int y1), (2, .int y2), (3, .int z3), (4, .int z4)] → W p l e ({ frames := 2, cells := 0, slots := 0, locals := 48 }) s m args below meth c H locs 0 0 Q (F0 m 5 ls []) := by
  have hx := F.1
  have hb := F.2.1
  intro n
  induction n with
  | zero =>
    intro z3 z4 h
    exact absurd h (by simp [m_X7_guardTold_L5])
  | succ n ih =>
    intro z3 z4 h H locs ls hG hl
    rw [m_X7_guardTold_L5] at h
    refine lv_iload hx hb dX7_guardTold_5 (lv_at hl 4 rfl) ?_
    refine lv_aload_n hx hb dX7_guardTold_7 rfl (lv_at hl 0 rfl) ?_
    refine xg7 F hG hq0 1 (by decide) (kw686 F.kd) (v := .int (M q0 1)) rfl dX7_guardTold_8 ?_
    refine lv_icmp_ge (tgt := 41) hx hb dX7_guardTold_11 (by decide) (fun c4 => ?_) (fun c4 => ?_)
    · have h := ite_t h c4
      exact K0 _ _ _ _ (som1 h).symm hG (lv_sub hl [0, 1, 2, 3] rfl)
    · have h := ite_f h c4
      refine lv_iload_n hx hb dX7_guardTold_14 rfl (lv_at hl 3 rfl) ?_
      refine lv_aload_n hx hb dX7_guardTold_15 rfl (lv_at hl 0 rfl) ?_
      have hk5 := (show kd 49 = 6 from rfl)
      refine xg7 F hG hq0 7 (by decide) (kw696 F.kd) (v := .ref (g 49)) rfl dX7_guardTold_16 ?_
      refine lv_iload_n hx hb dX7_guardTold_19 rfl (lv_at hl 1 rfl) ?_
      refine lv_iload hx hb dX7_guardTold_20 (lv_at hl 4 rfl) ?_
      obtain ⟨r7, hc6, h⟩ := cb1_e h
      refine k_i (r_runV F hG (c_X6_sees l D ca g hk5 hc6) (kd_lt hk5 (by decide)) (gd6 hk5) rfl (kw799 F.kd) (kw780 F.kd) (kw781 F.kd) (kw8 F.kd) (kw782 F.kd) yd_X6_sees ⟨Nat.le_of_ble_eq_true rfl, Nat.le_of_ble_eq_true rfl⟩ rfl hl.1 rfl (Nat.le_of_ble_eq_true rfl) dX7_guardTold_22 ⟨Nat.le_of_ble_eq_true rfl, Nat.le_of_ble_eq_true rfl⟩) hG (fun H locs hG => ?_)
      refine lv_if_eq (tgt := 32) hx hb dX7_guardTold_25 (by decide) (fun c8 => ?_) (fun c8 => ?_)
      · have h := ite_t h c8
        refine lv_iconst (v := 0) hx hb dX7_guardTold_32 (by decide) ?_
        refine lv_iadd hx hb dX7_guardTold_33 ?_
        refine lv_topi (fun x9 ex9 => ?_)
        have h := mlet_n h ex9
        refine lv_istore_n (lv' := [(3, .int x9), (0, .ref (g q0)), (1, .int y1), (2, .int y2), (4, .int z4)]) hx hb dX7_guardTold_34 rfl hl (by decide) rfl (fun ls hl => ?_)
        obtain ⟨x10, ex10, h⟩ := mlet_e h
        refine lv_iinc (v := x10) (lv' := [(4, .int x10), (3, .int x9), (0, .ref (g q0)), (1, .int y1), (2, .int y2)]) hx hb dX7_guardTold_35 hl (k := 4) rfl (by rw [ex10]; rfl) (by decide) rfl (fun ls hl => ?_)
        refine lv_goto (tgt := 5) hx hb dX7_guardTold_38 (by decide) ?_
        exact ih x9 x10 h _ _ _ hG (lv_sub hl [2, 3, 4, 1, 0] rfl)
      · have h := ite_f h c8
        refine lv_iconst (v := 1) hx hb dX7_guardTold_28 (by decide) ?_
        refine lv_goto (tgt := 33) hx hb dX7_guardTold_29 (by decide) ?_
        refine lv_iadd hx hb dX7_guardTold_33 ?_
        refine lv_topi (fun x11 ex11 => ?_)
        have h := mlet_n h ex11
        refine lv_istore_n (lv' := [(3, .int x11), (0, .ref (g q0)), (1, .int y1), (2, .int y2), (4, .int z4)]) hx hb dX7_guardTold_34 rfl hl (by decide) rfl (fun ls hl => ?_)
        obtain ⟨x12, ex12, h⟩ := mlet_e h
        refine lv_iinc (v := x12) (lv' := [(4, .int x12), (3, .int x11), (0, .ref (g q0)), (1, .int y1), (2, .int y2)]) hx hb dX7_guardTold_35 hl (k := 4) rfl (by rw [ex12]; rfl) (by decide) rfl (fun ls hl => ?_)
        refine lv_goto (tgt := 5) hx hb dX7_guardTold_38 (by decide) ?_
        exact ih x11 x12 h _ _ _ hG (lv_sub hl [2, 3, 4, 1, 0] rfl)
set_option maxHeartbeats 4000000 in
set_option maxRecDepth 100000 in
theorem c_X7_guardTold (l : Launch) (D : va_G) (ca : vCA) (g : Nat → Nat) {fu : Nat} {M : Mem} {a0 : Nat} {x1 : Int32} {x2 : Int32} {r : Int32} (ha0 : kd a0 = 7) (h : m_X7_guardTold fu M a0 x1 x2 = some r) : cM l yX7_guardTold cX7_guardTold 5 (some .int) { frames := 2, cells := 0, slots := 0, locals := 48 } D ca g M [.ref (g a0), .int x1, .int x2] (fun sz => cQi D ca g sz M r) := by
  refine mk_Met (by decide) (Nat.le_of_ble_eq_true rfl) ?_
  intro p e s m below meth c F hr hlk hnm hG ls hl
  have hx := F.1
  have hb := F.2.1
  replace hl : lv_has ls 5 [(0, .ref (g a0)), (1, .int x1), (2, .int x2)] := hl
  unfold m_X7_guardTold at h
  refine lv_iconst (v := 0) hx hb dX7_guardTold_0 (by decide) ?_
  refine lv_istore_n (lv' := [(3, .int 0), (0, .ref (g a0)), (1, .int x1), (2, .int x2)]) hx hb dX7_guardTold_1 rfl hl (by decide) rfl (fun ls hl => ?_)
  refine lv_iconst (v := 0) hx hb dX7_guardTold_2 (by decide) ?_
  refine lv_istore (lv' := [(4, .int 0), (3, .int 0), (0, .ref (g a0)), (1, .int x1), (2, .int x2)]) hx hb dX7_guardTold_3 hl (by decide) rfl (fun ls hl => ?_)
  obtain ⟨o13, ho14, h⟩ := cb1_e h
  refine m_X7_guardTold_L5_w (out := o13) F ha0 ?_ _ _ _ ho14 _ _ _ hG (lv_sub hl [2, 3, 4, 1, 0] rfl)
  · intro x15 H locs ls eo hG hl
    subst o13
    refine lv_iload_n hx hb dX7_guardTold_41 rfl (lv_at hl 2 rfl) ?_
    refine lv_if_ne (tgt := 60) hx hb dX7_guardTold_42 (by decide) (fun c16 => ?_) (fun c16 => ?_)
    · have h := ite_f h c16
      refine lv_iload_n hx hb dX7_guardTold_60 rfl (lv_at hl 2 rfl) ?_
      refine lv_iconst (v := 1) hx hb dX7_guardTold_61 (by decide) ?_
      refine lv_icmp_ne (tgt := 80) hx hb dX7_guardTold_62 (by decide) (fun c17 => ?_) (fun c17 => ?_)
      · have h := ite_f h c17
        refine lv_iload_n hx hb dX7_guardTold_80 rfl (lv_at hl 2 rfl) ?_
        refine lv_iconst (v := 2) hx hb dX7_guardTold_81 (by decide) ?_
        refine lv_icmp_ne (tgt := 107) hx hb dX7_guardTold_82 (by decide) (fun c18 => ?_) (fun c18 => ?_)
        · have h := ite_f h c18
          refine lv_iload_n hx hb dX7_guardTold_107 rfl (lv_at hl 3 rfl) ?_
          obtain rfl := som1 h
          exact end_i F hr hlk hG dX7_guardTold_108
        · have h := ite_t h c18
          refine lv_aload_n hx hb dX7_guardTold_85 rfl (lv_at hl 0 rfl) ?_
          have hk19 := kt_m2 ha0
          refine xg7 F hG ha0 4 (by decide) (kw691 F.kd) (v := .ref (g (a0 + 2))) rfl dX7_guardTold_86 ?_
          refine lv_bipush (v := 12) hx hb dX7_guardTold_89 (by decide) ?_
          refine lv_iload_n hx hb dX7_guardTold_91 rfl (lv_at hl 1 rfl) ?_
          refine lv_imul hx hb dX7_guardTold_92 ?_
          refine lv_aload_n hx hb dX7_guardTold_93 rfl (lv_at hl 0 rfl) ?_
          have hk20 := (show kd 49 = 6 from rfl)
          refine xg7 F hG ha0 7 (by decide) (kw696 F.kd) (v := .ref (g 49)) rfl dX7_guardTold_94 ?_
          have hk21 := kt_s9 hk20
          refine xg6N F hG hk20 9 (by decide) (kw659 F.kd) (v := .ref (g (49 + 9))) rfl dX7_guardTold_97 ?_
          refine lv_iload_n hx hb dX7_guardTold_100 rfl (lv_at hl 1 rfl) ?_
          obtain ⟨hi22, h⟩ := chk_e h
          refine r_ald F hG hk21 hi22 dX7_guardTold_101 ?_
          refine lv_iadd hx hb dX7_guardTold_102 ?_
          obtain ⟨hi23, h⟩ := chk_e h
          refine r_ald F hG hk19 hi23 dX7_guardTold_103 ?_
          refine lv_goto (tgt := 108) hx hb dX7_guardTold_104 (by decide) ?_
          obtain rfl := som1 h
          exact end_i F hr hlk hG dX7_guardTold_108
      · have h := ite_t h c17
        refine lv_aload_n hx hb dX7_guardTold_65 rfl (lv_at hl 0 rfl) ?_
        have hk24 := (show kd 49 = 6 from rfl)
        refine xg7 F hG ha0 7 (by decide) (kw696 F.kd) (v := .ref (g 49)) rfl dX7_guardTold_66 ?_
        have hk25 := kt_s8 hk24
        refine xg6N F hG hk24 8 (by decide) (kw657 F.kd) (v := .ref (g (49 + 8))) rfl dX7_guardTold_69 ?_
        refine lv_iload_n hx hb dX7_guardTold_72 rfl (lv_at hl 1 rfl) ?_
        obtain ⟨hi26, h⟩ := chk_e h
        refine r_ald F hG hk25 hi26 dX7_guardTold_73 ?_
        refine lv_bipush (v := 12) hx hb dX7_guardTold_74 (by decide) ?_
        refine lv_idiv hx hb dX7_guardTold_76 (by decide) ?_
        refine lv_goto (tgt := 108) hx hb dX7_guardTold_77 (by decide) ?_
        obtain rfl := som1 h
        exact end_i F hr hlk hG dX7_guardTold_108
    · have h := ite_t h c16
      refine lv_aload_n hx hb dX7_guardTold_45 rfl (lv_at hl 0 rfl) ?_
      have hk27 := (show kd 49 = 6 from rfl)
      refine xg7 F hG ha0 7 (by decide) (kw696 F.kd) (v := .ref (g 49)) rfl dX7_guardTold_46 ?_
      have hk28 := kt_s8 hk27
      refine xg6N F hG hk27 8 (by decide) (kw657 F.kd) (v := .ref (g (49 + 8))) rfl dX7_guardTold_49 ?_
      refine lv_iload_n hx hb dX7_guardTold_52 rfl (lv_at hl 1 rfl) ?_
      obtain ⟨hi29, h⟩ := chk_e h
      refine r_ald F hG hk28 hi29 dX7_guardTold_53 ?_
      refine lv_bipush (v := 12) hx hb dX7_guardTold_54 (by decide) ?_
      obtain ⟨x30, ex30, h⟩ := mlet_e h
      rw [← ex30]
      refine lv_irem hx hb dX7_guardTold_56 (by decide) ?_
      refine lv_goto (tgt := 108) hx hb dX7_guardTold_57 (by decide) ?_
      obtain rfl := som1 h
      exact end_i F hr hlk hG dX7_guardTold_108
set_option maxHeartbeats 4000000 in
set_option maxRecDepth 100000 in
theorem c_X7_guard (l : Launch) (D : va_G) (ca : vCA) (g : Nat → Nat) {fu : Nat} {M : Mem} {a0 : Nat} {x1 : Int32} {x2 : Int32} {M' : Mem} {r : Int32} (ha0 : kd a0 = 7) (h : m_X7_guard fu M a0 x1 x2 = some (M', r)) : cM l yX7_guard cX7_guard 3 (some .int) { frames := 3, cells := 0, slots := 0, locals := 72 } D ca g M [.ref (g a0), .int x1, .int x2] (fun sz => cQi D ca g sz M' r) := by
  refine mk_Met (by decide) (Nat.le_of_ble_eq_true rfl) ?_
  intro p e s m below meth c F hr hlk hnm hG ls hl
  have hx := F.1
  have hb := F.2.1
  replace hl : lv_has ls 3 [(0, .ref (g a0)), (1, .int x1), (2, .int x2)] := hl
  unfold m_X7_guard at h
  refine lv_aload_n hx hb dX7_guard_0 rfl (lv_at hl 0 rfl) ?_
  refine lv_iconst (v := 0) hx hb dX7_guard_1 (by decide) ?_
  obtain ⟨M4, eM4, h⟩ := mlet_e h
  refine xp7 F hG ha0 eM4 rfl (by decide) (kw684 F.kd) rfl rfl rfl dX7_guard_2 (fun H locs hG => ?_)
  refine lv_aload_n hx hb dX7_guard_5 rfl (lv_at hl 0 rfl) ?_
  refine lv_iload_n hx hb dX7_guard_6 rfl (lv_at hl 1 rfl) ?_
  obtain ⟨r6, hc5, h⟩ := cb1_e h
  refine k_i (r_runV F hG (c_X7_isPatrol l D ca g ha0 hc5) (kd_lt ha0 (by decide)) (gd7 ha0) rfl (kw791 F.kd) (kw793 F.kd) (ks_X7_isPatrol F.kd) (kw7 F.kd) (kw794 F.kd) yd_X7_isPatrol ⟨Nat.le_of_ble_eq_true rfl, Nat.le_of_ble_eq_true rfl⟩ rfl hl.1 rfl (Nat.le_of_ble_eq_true rfl) dX7_guard_7 ⟨Nat.le_of_ble_eq_true rfl, Nat.le_of_ble_eq_true rfl⟩) hG (fun H locs hG => ?_)
  refine lv_if_eq (tgt := 31) hx hb dX7_guard_10 (by decide) (fun c7 => ?_) (fun c7 => ?_)
  · have h := ite_t h c7
    refine lv_aload_n hx hb dX7_guard_31 rfl (lv_at hl 0 rfl) ?_
    refine lv_iconst (v := 1) hx hb dX7_guard_32 (by decide) ?_
    obtain ⟨M10, r9, hc8, h⟩ := cb2_e h
    refine k_i (r_runV F hG (c_X7_no l D ca g ha0 hc8) (kd_lt ha0 (by decide)) (gd7 ha0) rfl (kw731 F.kd) (kw733 F.kd) (ks_X7_no F.kd) (kw7 F.kd) (kw734 F.kd) yd_X7_no ⟨Nat.le_of_ble_eq_true rfl, Nat.le_of_ble_eq_true rfl⟩ rfl hl.1 rfl (Nat.le_of_ble_eq_true rfl) dX7_guard_33 ⟨Nat.le_of_ble_eq_true rfl, Nat.le_of_ble_eq_true rfl⟩) hG (fun H locs hG => ?_)
    obtain ⟨rfl, rfl⟩ := som2 h
    exact end_i F hr hlk hG dX7_guard_36
  · have h := ite_f h c7
    refine lv_iload_n hx hb dX7_guard_13 rfl (lv_at hl 2 rfl) ?_
    refine lv_iconst (v := 0) hx hb dX7_guard_14 (by decide) ?_
    refine lv_iconst (v := 3) hx hb dX7_guard_15 (by decide) ?_
    obtain ⟨r12, hc11, h⟩ := cb1_e h
    refine k_i (r_runS F hG (c_X7_isIn l D ca g hc11) (kw728 F.kd) (kw729 F.kd) (kw7 F.kd) (kw730 F.kd) yd_X7_isIn ⟨Nat.le_of_ble_eq_true rfl, Nat.le_of_ble_eq_true rfl⟩ rfl hl.1 rfl (Nat.le_of_ble_eq_true rfl) dX7_guard_16 ⟨Nat.le_of_ble_eq_true rfl, Nat.le_of_ble_eq_true rfl⟩) hG (fun H locs hG => ?_)
    refine lv_if_eq (tgt := 31) hx hb dX7_guard_19 (by decide) (fun c13 => ?_) (fun c13 => ?_)
    · have h := ite_t h c13
      refine lv_aload_n hx hb dX7_guard_31 rfl (lv_at hl 0 rfl) ?_
      refine lv_iconst (v := 1) hx hb dX7_guard_32 (by decide) ?_
      obtain ⟨M16, r15, hc14, h⟩ := cb2_e h
      refine k_i (r_runV F hG (c_X7_no l D ca g ha0 hc14) (kd_lt ha0 (by decide)) (gd7 ha0) rfl (kw731 F.kd) (kw733 F.kd) (ks_X7_no F.kd) (kw7 F.kd) (kw734 F.kd) yd_X7_no ⟨Nat.le_of_ble_eq_true rfl, Nat.le_of_ble_eq_true rfl⟩ rfl hl.1 rfl (Nat.le_of_ble_eq_true rfl) dX7_guard_33 ⟨Nat.le_of_ble_eq_true rfl, Nat.le_of_ble_eq_true rfl⟩) hG (fun H locs hG => ?_)
      obtain ⟨rfl, rfl⟩ := som2 h
      exact end_i F hr hlk hG dX7_guard_36
    · have h := ite_f h c13
      refine lv_aload_n hx hb dX7_guard_22 rfl (lv_at hl 0 rfl) ?_
      refine lv_iload_n hx hb dX7_guard_23 rfl (lv_at hl 1 rfl) ?_
      refine lv_iload_n hx hb dX7_guard_24 rfl (lv_at hl 2 rfl) ?_
      obtain ⟨r18, hc17, h⟩ := cb1_e h
      refine k_i (r_runV F hG (c_X7_guardTold l D ca g ha0 hc17) (kd_lt ha0 (by decide)) (gd7 ha0) rfl (kw795 F.kd) (kw797 F.kd) (ks_X7_guardTold F.kd) (kw7 F.kd) (kw798 F.kd) yd_X7_guardTold ⟨Nat.le_of_ble_eq_true rfl, Nat.le_of_ble_eq_true rfl⟩ rfl hl.1 rfl (Nat.le_of_ble_eq_true rfl) dX7_guard_25 ⟨Nat.le_of_ble_eq_true rfl, Nat.le_of_ble_eq_true rfl⟩) hG (fun H locs hG => ?_)
      refine lv_goto (tgt := 36) hx hb dX7_guard_28 (by decide) ?_
      obtain ⟨rfl, rfl⟩ := som2 h
      exact end_i F hr hlk hG dX7_guard_36
set_option maxHeartbeats 4000000 in
set_option maxRecDepth 100000 in
theorem c_X7_sees (l : Launch) (D : va_G) (ca : vCA) (g : Nat → Nat) {fu : Nat} {M : Mem} {a0 : Nat} {x1 : Int32} {x2 : Int32} {M' : Mem} {r : Int32} (ha0 : kd a0 = 7) (h : m_X7_sees fu M a0 x1 x2 = some (M', r)) : cM l yX7_sees cX7_sees 3 (some .boolean) { frames := 2, cells := 0, slots := 0, locals := 48 } D ca g M [.ref (g a0), .int x1, .int x2] (fun sz => cQi D ca g sz M' r) := by
  refine mk_Met (by decide) (Nat.le_of_ble_eq_true rfl) ?_
  intro p e s m below meth c F hr hlk hnm hG ls hl
  have hx := F.1
  have hb := F.2.1
  replace hl : lv_has ls 3 [(0, .ref (g a0)), (1, .int x1), (2, .int x2)] := hl
  unfold m_X7_sees at h
  refine lv_aload_n hx hb dX7_sees_0 rfl (lv_at hl 0 rfl) ?_
  refine lv_iconst (v := 0) hx hb dX7_sees_1 (by decide) ?_
  obtain ⟨M4, eM4, h⟩ := mlet_e h
  refine xp7 F hG ha0 eM4 rfl (by decide) (kw684 F.kd) rfl rfl rfl dX7_sees_2 (fun H locs hG => ?_)
  refine lv_aload_n hx hb dX7_sees_5 rfl (lv_at hl 0 rfl) ?_
  refine lv_iload_n hx hb dX7_sees_6 rfl (lv_at hl 1 rfl) ?_
  obtain ⟨r6, hc5, h⟩ := cb1_e h
  refine k_i (r_runV F hG (c_X7_isPatrol l D ca g ha0 hc5) (kd_lt ha0 (by decide)) (gd7 ha0) rfl (kw791 F.kd) (kw793 F.kd) (ks_X7_isPatrol F.kd) (kw7 F.kd) (kw794 F.kd) yd_X7_isPatrol ⟨Nat.le_of_ble_eq_true rfl, Nat.le_of_ble_eq_true rfl⟩ rfl hl.1 rfl (Nat.le_of_ble_eq_true rfl) dX7_sees_7 ⟨Nat.le_of_ble_eq_true rfl, Nat.le_of_ble_eq_true rfl⟩) hG (fun H locs hG => ?_)
  refine lv_if_eq (tgt := 33) hx hb dX7_sees_10 (by decide) (fun c7 => ?_) (fun c7 => ?_)
  · have h := ite_t h c7
    refine lv_aload_n hx hb dX7_sees_33 rfl (lv_at hl 0 rfl) ?_
    refine lv_iconst (v := 1) hx hb dX7_sees_34 (by decide) ?_
    obtain ⟨M10, r9, hc8, h⟩ := cb2_e h
    refine k_i (r_runV F hG (c_X7_no l D ca g ha0 hc8) (kd_lt ha0 (by decide)) (gd7 ha0) rfl (kw731 F.kd) (kw733 F.kd) (ks_X7_no F.kd) (kw7 F.kd) (kw734 F.kd) yd_X7_no ⟨Nat.le_of_ble_eq_true rfl, Nat.le_of_ble_eq_true rfl⟩ rfl hl.1 rfl (Nat.le_of_ble_eq_true rfl) dX7_sees_35 ⟨Nat.le_of_ble_eq_true rfl, Nat.le_of_ble_eq_true rfl⟩) hG (fun H locs hG => ?_)
    refine lv_if_eq (tgt := 45) hx hb dX7_sees_38 (by decide) (fun c11 => ?_) (fun c11 => ?_)
    · have h := ite_t h c11
      refine lv_iconst (v := 0) hx hb dX7_sees_45 (by decide) ?_
      obtain ⟨rfl, rfl⟩ := som2 h
      exact end_z F hr hlk (by decide) hG dX7_sees_46
    · have h := ite_f h c11
      refine lv_iconst (v := 1) hx hb dX7_sees_41 (by decide) ?_
      refine lv_goto (tgt := 46) hx hb dX7_sees_42 (by decide) ?_
      obtain ⟨rfl, rfl⟩ := som2 h
      exact end_z F hr hlk (by decide) hG dX7_sees_46
  · have h := ite_f h c7
    refine lv_aload_n hx hb dX7_sees_13 rfl (lv_at hl 0 rfl) ?_
    refine lv_iload_n hx hb dX7_sees_14 rfl (lv_at hl 2 rfl) ?_
    obtain ⟨r13, hc12, h⟩ := cb1_e h
    refine k_i (r_runV F hG (c_X7_isCrowd l D ca g ha0 hc12) (kd_lt ha0 (by decide)) (gd7 ha0) rfl (kw755 F.kd) (kw757 F.kd) (ks_X7_isCrowd F.kd) (kw7 F.kd) (kw758 F.kd) yd_X7_isCrowd ⟨Nat.le_of_ble_eq_true rfl, Nat.le_of_ble_eq_true rfl⟩ rfl hl.1 rfl (Nat.le_of_ble_eq_true rfl) dX7_sees_15 ⟨Nat.le_of_ble_eq_true rfl, Nat.le_of_ble_eq_true rfl⟩) hG (fun H locs hG => ?_)
    refine lv_if_eq (tgt := 33) hx hb dX7_sees_18 (by decide) (fun c14 => ?_) (fun c14 => ?_)
    · have h := ite_t h c14
      refine lv_aload_n hx hb dX7_sees_33 rfl (lv_at hl 0 rfl) ?_
      refine lv_iconst (v := 1) hx hb dX7_sees_34 (by decide) ?_
      obtain ⟨M17, r16, hc15, h⟩ := cb2_e h
      refine k_i (r_runV F hG (c_X7_no l D ca g ha0 hc15) (kd_lt ha0 (by decide)) (gd7 ha0) rfl (kw731 F.kd) (kw733 F.kd) (ks_X7_no F.kd) (kw7 F.kd) (kw734 F.kd) yd_X7_no ⟨Nat.le_of_ble_eq_true rfl, Nat.le_of_ble_eq_true rfl⟩ rfl hl.1 rfl (Nat.le_of_ble_eq_true rfl) dX7_sees_35 ⟨Nat.le_of_ble_eq_true rfl, Nat.le_of_ble_eq_true rfl⟩) hG (fun H locs hG => ?_)
      refine lv_if_eq (tgt := 45) hx hb dX7_sees_38 (by decide) (fun c18 => ?_) (fun c18 => ?_)
      · have h := ite_t h c18
        refine lv_iconst (v := 0) hx hb dX7_sees_45 (by decide) ?_
        obtain ⟨rfl, rfl⟩ := som2 h
        exact end_z F hr hlk (by decide) hG dX7_sees_46
      · have h := ite_f h c18
        refine lv_iconst (v := 1) hx hb dX7_sees_41 (by decide) ?_
        refine lv_goto (tgt := 46) hx hb dX7_sees_42 (by decide) ?_
        obtain ⟨rfl, rfl⟩ := som2 h
        exact end_z F hr hlk (by decide) hG dX7_sees_46
    · have h := ite_f h c14
      refine lv_aload_n hx hb dX7_sees_21 rfl (lv_at hl 0 rfl) ?_
      have hk19 := (show kd 49 = 6 from rfl)
      refine xg7 F hG ha0 7 (by decide) (kw696 F.kd) (v := .ref (g 49)) rfl dX7_sees_22 ?_
      refine lv_iload_n hx hb dX7_sees_25 rfl (lv_at hl 1 rfl) ?_
      refine lv_iload_n hx hb dX7_sees_26 rfl (lv_at hl 2 rfl) ?_
      obtain ⟨r21, hc20, h⟩ := cb1_e h
      refine k_i (r_runV F hG (c_X6_sees l D ca g hk19 hc20) (kd_lt hk19 (by decide)) (gd6 hk19) rfl (kw799 F.kd) (kw780 F.kd) (kw781 F.kd) (kw8 F.kd) (kw782 F.kd) yd_X6_sees ⟨Nat.le_of_ble_eq_true rfl, Nat.le_of_ble_eq_true rfl⟩ rfl hl.1 rfl (Nat.le_of_ble_eq_true rfl) dX7_sees_27 ⟨Nat.le_of_ble_eq_true rfl, Nat.le_of_ble_eq_true rfl⟩) hG (fun H locs hG => ?_)
      refine lv_goto (tgt := 46) hx hb dX7_sees_30 (by decide) ?_
      obtain ⟨hz22, h⟩ := chk_e h
      obtain ⟨rfl, rfl⟩ := som2 h
      exact end_z F hr hlk hz22 hG dX7_sees_46
set_option maxHeartbeats 4000000 in
set_option maxRecDepth 100000 in
theorem m_X7_left_L4_w {p : Program} {l : Launch} {e : Env} {s : State} {m : MethodId} {args : Array Value} {below : List Frame} {meth : Method} {c : Code} {Q : State → Prop} {D : va_G} {ca : vCA} {g : Nat → Nat} {fu : Nat} {M : Mem} {q0 : Nat} {out : Int32} (F : FX p m c cX7_left 3 s D ca g RX7) (hq0 : kd q0 = 7)
    (K0 : ∀ (u1 : Int32) (H : Heap) (locs : List Loc) (ls : Array Slot), out = u1 → GW D ca g s M H locs → lv_has ls 3 [(1, .int u1)] → W p l e ({ frames := 0, cells := 0, slots := 0, locals := 0 }) s m args below meth c H locs 0 0 Q (F0 m 38 ls [])) :
    ∀ (n : Nat) (z1 : Int32) (z2 : Int32), m_X7_left_L4 fu M q0 n z1 z2 = some out → ∀ (H : Heap) (locs : List Loc) (ls : Array Slot), GW D ca g s M H locs → lv_has ls 3 [(0, .ref (g q0)), (1, .int z1), (2, .int z2)] → W p l e ({ frames := 0, cells := 0, slots := 0, locals := 0 }) s m args below meth c H locs 0 0 Q (F0 m 4 ls []) := by
  have hx := F.1
  have hb := F.2.1
  intro n
  induction n with
  | zero =>
    intro z1 z2 h
    exact absurd h (by simp [m_X7_left_L4])
  | succ n ih =>
    intro z1 z2 h H locs ls hG hl
    rw [m_X7_left_L4] at h
    refine lv_iload_n hx hb dX7_left_4 rfl (lv_at hl 2 rfl) ?_
    refine lv_aload_n hx hb dX7_left_5 rfl (lv_at hl 0 rfl) ?_
    refine xg7 F hG hq0 1 (by decide) (kw686 F.kd) (v := .int (M q0 1)) rfl dX7_left_6 ?_
    refine lv_icmp_ge (tgt := 38) hx hb dX7_left_9 (by decide) (fun c2 => ?_) (fun c2 => ?_)
    · have h := ite_t h c2
      exact K0 _ _ _ _ (som1 h).symm hG (lv_sub hl [1] rfl)
    · have h := ite_f h c2
      refine lv_iload_n hx hb dX7_left_12 rfl (lv_at hl 1 rfl) ?_
      refine lv_aload_n hx hb dX7_left_13 rfl (lv_at hl 0 rfl) ?_
      have hk3 := (show kd 49 = 6 from rfl)
      refine xg7 F hG hq0 7 (by decide) (kw696 F.kd) (v := .ref (g 49)) rfl dX7_left_14 ?_
      have hk4 := kt_s3 hk3
      refine xg6N F hG hk3 3 (by decide) (kw647 F.kd) (v := .ref (g (49 + 3))) rfl dX7_left_17 ?_
      refine lv_iload_n hx hb dX7_left_20 rfl (lv_at hl 2 rfl) ?_
      obtain ⟨hi5, h⟩ := chk_e h
      refine r_ald F hG hk4 hi5 dX7_left_21 ?_
      refine lv_if_le (tgt := 29) hx hb dX7_left_22 (by decide) (fun c6 => ?_) (fun c6 => ?_)
      · have h := ite_t h c6
        refine lv_iconst (v := 0) hx hb dX7_left_29 (by decide) ?_
        refine lv_iadd hx hb dX7_left_30 ?_
        refine lv_topi (fun x7 ex7 => ?_)
        have h := mlet_n h ex7
        refine lv_istore_n (lv' := [(1, .int x7), (0, .ref (g q0)), (2, .int z2)]) hx hb dX7_left_31 rfl hl (by decide) rfl (fun ls hl => ?_)
        obtain ⟨x8, ex8, h⟩ := mlet_e h
        refine lv_iinc (v := x8) (lv' := [(2, .int x8), (1, .int x7), (0, .ref (g q0))]) hx hb dX7_left_32 hl (k := 2) rfl (by rw [ex8]; rfl) (by decide) rfl (fun ls hl => ?_)
        refine lv_goto (tgt := 4) hx hb dX7_left_35 (by decide) ?_
        exact ih x7 x8 h _ _ _ hG (lv_sub hl [2, 1, 0] rfl)
      · have h := ite_f h c6
        refine lv_iconst (v := 1) hx hb dX7_left_25 (by decide) ?_
        refine lv_goto (tgt := 30) hx hb dX7_left_26 (by decide) ?_
        refine lv_iadd hx hb dX7_left_30 ?_
        refine lv_topi (fun x9 ex9 => ?_)
        have h := mlet_n h ex9
        refine lv_istore_n (lv' := [(1, .int x9), (0, .ref (g q0)), (2, .int z2)]) hx hb dX7_left_31 rfl hl (by decide) rfl (fun ls hl => ?_)
        obtain ⟨x10, ex10, h⟩ := mlet_e h
        refine lv_iinc (v := x10) (lv' := [(2, .int x10), (1, .int x9), (0, .ref (g q0))]) hx hb dX7_left_32 hl (k := 2) rfl (by rw [ex10]; rfl) (by decide) rfl (fun ls hl => ?_)
        refine lv_goto (tgt := 4) hx hb dX7_left_35 (by decide) ?_
        exact ih x9 x10 h _ _ _ hG (lv_sub hl [2, 1, 0] rfl)
set_option maxHeartbeats 4000000 in
set_option maxRecDepth 100000 in
theorem c_X7_left (l : Launch) (D : va_G) (ca : vCA) (g : Nat → Nat) {fu : Nat} {M : Mem} {a0 : Nat} {r : Int32} (ha0 : kd a0 = 7) (h : m_X7_left fu M a0 = some r) : cM l yX7_left cX7_left 3 (some .int) { frames := 0, cells := 0, slots := 0, locals := 0 } D ca g M [.ref (g a0)] (fun sz => cQi D ca g sz M r) := by
  refine mk_Met (by decide) (Nat.le_of_ble_eq_true rfl) ?_
  intro p e s m below meth c F hr hlk hnm hG ls hl
  have hx := F.1
  have hb := F.2.1
  replace hl : lv_has ls 3 [(0, .ref (g a0))] := hl
  unfold m_X7_left at h
  refine lv_iconst (v := 0) hx hb dX7_left_0 (by decide) ?_
  refine lv_istore_n (lv' := [(1, .int 0), (0, .ref (g a0))]) hx hb dX7_left_1 rfl hl (by decide) rfl (fun ls hl => ?_)
  refine lv_iconst (v := 0) hx hb dX7_left_2 (by decide) ?_
  refine lv_istore_n (lv' := [(2, .int 0), (1, .int 0), (0, .ref (g a0))]) hx hb dX7_left_3 rfl hl (by decide) rfl (fun ls hl => ?_)
  obtain ⟨o11, ho12, h⟩ := cb1_e h
  refine m_X7_left_L4_w (out := o11) F ha0 ?_ _ _ _ ho12 _ _ _ hG (lv_sub hl [2, 1, 0] rfl)
  · intro x13 H locs ls eo hG hl
    subst o11
    refine lv_iload_n hx hb dX7_left_38 rfl (lv_at hl 0 rfl) ?_
    obtain rfl := som1 h
    exact end_i F hr hlk hG dX7_left_39
set_option maxHeartbeats 4000000 in
set_option maxRecDepth 100000 in
theorem m_X7_way_L76_w {p : Program} {l : Launch} {e : Env} {s : State} {m : MethodId} {args : Array Value} {below : List Frame} {meth : Method} {c : Code} {Q : State → Prop} {D : va_G} {ca : vCA} {g : Nat → Nat} {fu : Nat} {q0 : Nat} {y5 : Int32} {y6 : Int32} {out : Mem} (F : FX p m c cX7_way 10 s D ca g RX7) (hq0 : kd q0 = 7)
    (K0 : ∀ (M1 : Mem) (H : Heap) (locs : List Loc) (ls : Array Slot), out = M1 → GW D ca g s M1 H locs → lv_has ls 10 [(0, .ref (g q0)), (5, .int y5), (6, .int y6)] → W p l e ({ frames := 3, cells := 0, slots := 0, locals := 66 }) s m args below meth c H locs 0 0 Q (F0 m 99 ls [])) :
    ∀ (n : Nat) (M : Mem) (z7 : Int32), m_X7_way_L76 fu q0 y5 y6 n M z7 = some out → ∀ (H : Heap) (locs : List Loc) (ls : Array Slot), GW D ca g s M H locs → lv_has ls 10 [(0, .ref (g q0)), (5, .int y5), (6, .int y6), (7, .int z7)] → W p l e ({ frames := 3, cells := 0, slots := 0, locals := 66 }) s m args below meth c H locs 0 0 Q (F0 m 76 ls []) := by
  have hx := F.1
  have hb := F.2.1
  intro n
  induction n with
  | zero =>
    intro M z7 h
    exact absurd h (by simp [m_X7_way_L76])
  | succ n ih =>
    intro M z7 h H locs ls hG hl
    rw [m_X7_way_L76] at h
    refine lv_iload hx hb dX7_way_76 (lv_at hl 3 rfl) ?_
    refine lv_bipush (v := 108) hx hb dX7_way_78 (by decide) ?_
    refine lv_icmp_ge (tgt := 99) hx hb dX7_way_80 (by decide) (fun c26 => ?_) (fun c26 => ?_)
    · have h := ite_t h c26
      exact K0 _ _ _ _ (som1 h).symm hG (lv_sub hl [0, 1, 2] rfl)
    · have h := ite_f h c26
      refine lv_aload_n hx hb dX7_way_83 rfl (lv_at hl 0 rfl) ?_
      have hk27 := kt_m3 hq0
      refine xg7 F hG hq0 5 (by decide) (kw693 F.kd) (v := .ref (g (q0 + 3))) rfl dX7_way_84 ?_
      refine lv_iload hx hb dX7_way_87 (lv_at hl 3 rfl) ?_
      refine lv_sipush (v := 9999) hx hb dX7_way_89 (by decide) ?_
      obtain ⟨hi28, h⟩ := chk_e h
      obtain ⟨M29, eM29, h⟩ := mlet_e h
      refine r_ast F hG hk27 hi28 eM29 dX7_way_92 (fun H locs hG => ?_)
      obtain ⟨x30, ex30, h⟩ := mlet_e h
      refine lv_iinc (v := x30) (lv' := [(7, .int x30), (0, .ref (g q0)), (5, .int y5), (6, .int y6)]) hx hb dX7_way_93 hl (k := 3) rfl (by rw [ex30]; rfl) (by decide) rfl (fun ls hl => ?_)
      refine lv_goto (tgt := 76) hx hb dX7_way_96 (by decide) ?_
      exact ih M29 x30 h _ _ _ hG (lv_sub hl [1, 2, 3, 0] rfl)
set_option maxHeartbeats 4000000 in
set_option maxRecDepth 100000 in
theorem m_X7_way_L121_w {p : Program} {l : Launch} {e : Env} {s : State} {m : MethodId} {args : Array Value} {below : List Frame} {meth : Method} {c : Code} {Q : State → Prop} {D : va_G} {ca : vCA} {g : Nat → Nat} {fu : Nat} {q0 : Nat} {y6 : Int32} {out : Mem} (F : FX p m c cX7_way 10 s D ca g RX7) (hq0 : kd q0 = 7)
    (K0 : ∀ (M1 : Mem) (H : Heap) (locs : List Loc) (ls : Array Slot), out = M1 → GW D ca g s M1 H locs → lv_has ls 10 [(0, .ref (g q0)), (6, .int y6)] → W p l e ({ frames := 3, cells := 0, slots := 0, locals := 66 }) s m args below meth c H locs 0 0 Q (F0 m 224 ls [])) :
    ∀ (n : Nat) (M : Mem) (z7 : Int32) (z8 : Int32), m_X7_way_L121 fu q0 y6 n M z7 z8 = some out → ∀ (H : Heap) (locs : List Loc) (ls : Array Slot), GW D ca g s M H locs → lv_has ls 10 [(0, .ref (g q0)), (6, .int y6), (7, .int z7), (8, .int z8)] → W p l e ({ frames := 3, cells := 0, slots := 0, locals := 66 }) s m args below meth c H locs 0 0 Q (F0 m 121 ls []) := by
  have hx := F.1
  have hb := F.2.1
  intro n
  induction n with
  | zero =>
    intro M z7 z8 h
    exact absurd h (by simp [m_X7_way_L121])
  | succ n ih =>
    intro M z7 z8 h H locs ls hG hl
    rw [m_X7_way_L121] at h
    refine lv_iload hx hb dX7_way_121 (lv_at hl 3 rfl) ?_
    refine lv_iconst (v := 4) hx hb dX7_way_123 (by decide) ?_
    refine lv_iload hx hb dX7_way_124 (lv_at hl 2 rfl) ?_
    refine lv_imul hx hb dX7_way_126 ?_
    refine lv_icmp_ge (tgt := 224) hx hb dX7_way_127 (by decide) (fun c40 => ?_) (fun c40 => ?_)
    · have h := ite_t h c40
      exact K0 _ _ _ _ (som1 h).symm hG (lv_sub hl [0, 1] rfl)
    · have h := ite_f h c40
      refine lv_aload_n hx hb dX7_way_130 rfl (lv_at hl 0 rfl) ?_
      have hk41 := kt_m4 hq0
      refine xg7 F hG hq0 6 (by decide) (kw695 F.kd) (v := .ref (g (q0 + 4))) rfl dX7_way_131 ?_
      refine lv_iload hx hb dX7_way_134 (lv_at hl 3 rfl) ?_
      refine lv_iconst (v := 4) hx hb dX7_way_136 (by decide) ?_
      refine lv_idiv hx hb dX7_way_137 (by decide) ?_
      obtain ⟨hi42, h⟩ := chk_e h
      refine r_ald F hG hk41 hi42 dX7_way_138 ?_
      refine lv_iload hx hb dX7_way_139 (lv_at hl 3 rfl) ?_
      refine lv_iconst (v := 4) hx hb dX7_way_141 (by decide) ?_
      refine lv_irem hx hb dX7_way_142 (by decide) ?_
      obtain ⟨r44, hc43, h⟩ := cb1_e h
      refine k_i (r_runS F hG (c_X7_beside l D ca g hc43) (kw829 F.kd) (kw830 F.kd) (kw7 F.kd) (kw831 F.kd) yd_X7_beside ⟨Nat.le_of_ble_eq_true rfl, Nat.le_of_ble_eq_true rfl⟩ rfl hl.1 rfl (Nat.le_of_ble_eq_true rfl) dX7_way_143 ⟨Nat.le_of_ble_eq_true rfl, Nat.le_of_ble_eq_true rfl⟩) hG (fun H locs hG => ?_)
      refine lv_istore (lv' := [(9, .int r44), (0, .ref (g q0)), (6, .int y6), (7, .int z7), (8, .int z8)]) hx hb dX7_way_146 hl (by decide) rfl (fun ls hl => ?_)
      refine lv_iload hx hb dX7_way_148 (lv_at hl 0 rfl) ?_
      refine lv_iconst (v := (-1)) hx hb dX7_way_150 (by decide) ?_
      refine lv_icmp_eq (tgt := 218) hx hb dX7_way_151 (by decide) (fun c45 => ?_) (fun c45 => ?_)
      · have h := ite_t h c45
        obtain ⟨x46, ex46, h⟩ := mlet_e h
        refine lv_iinc (v := x46) (lv' := [(8, .int x46), (9, .int r44), (0, .ref (g q0)), (6, .int y6), (7, .int z7)]) hx hb dX7_way_218 hl (k := 4) rfl (by rw [ex46]; rfl) (by decide) rfl (fun ls hl => ?_)
        refine lv_goto (tgt := 121) hx hb dX7_way_221 (by decide) ?_
        exact ih M z7 x46 h _ _ _ hG (lv_sub hl [2, 3, 4, 0] rfl)
      · have h := ite_f h c45
        refine lv_aload_n hx hb dX7_way_154 rfl (lv_at hl 1 rfl) ?_
        have hk47 := (show kd 49 = 6 from rfl)
        refine xg7 F hG hq0 7 (by decide) (kw696 F.kd) (v := .ref (g 49)) rfl dX7_way_155 ?_
        have hk48 := kt_s1 hk47
        refine xg6N F hG hk47 1 (by decide) (kw643 F.kd) (v := .ref (g (49 + 1))) rfl dX7_way_158 ?_
        refine lv_iload hx hb dX7_way_161 (lv_at hl 0 rfl) ?_
        obtain ⟨hi49, h⟩ := chk_e h
        refine r_ald F hG hk48 hi49 dX7_way_163 ?_
        refine lv_if_ne (tgt := 218) hx hb dX7_way_164 (by decide) (fun c50 => ?_) (fun c50 => ?_)
        · have h := ite_f h c50
          obtain ⟨x51, ex51, h⟩ := mlet_e h
          refine lv_iinc (v := x51) (lv' := [(8, .int x51), (9, .int r44), (0, .ref (g q0)), (6, .int y6), (7, .int z7)]) hx hb dX7_way_218 hl (k := 4) rfl (by rw [ex51]; rfl) (by decide) rfl (fun ls hl => ?_)
          refine lv_goto (tgt := 121) hx hb dX7_way_221 (by decide) ?_
          exact ih M z7 x51 h _ _ _ hG (lv_sub hl [2, 3, 4, 0] rfl)
        · have h := ite_t h c50
          refine lv_aload_n hx hb dX7_way_167 rfl (lv_at hl 1 rfl) ?_
          have hk52 := kt_m3 hq0
          refine xg7 F hG hq0 5 (by decide) (kw693 F.kd) (v := .ref (g (q0 + 3))) rfl dX7_way_168 ?_
          refine lv_iload hx hb dX7_way_171 (lv_at hl 0 rfl) ?_
          obtain ⟨hi53, h⟩ := chk_e h
          refine r_ald F hG hk52 hi53 dX7_way_173 ?_
          refine lv_sipush (v := 9999) hx hb dX7_way_174 (by decide) ?_
          refine lv_icmp_ge (tgt := 183) hx hb dX7_way_177 (by decide) (fun c54 => ?_) (fun c54 => ?_)
          · have h := ite_t h c54
            refine lv_aload_n hx hb dX7_way_183 rfl (lv_at hl 1 rfl) ?_
            have hk55 := kt_m3 hq0
            refine xg7 F hG hq0 5 (by decide) (kw693 F.kd) (v := .ref (g (q0 + 3))) rfl dX7_way_184 ?_
            refine lv_iload hx hb dX7_way_187 (lv_at hl 0 rfl) ?_
            refine lv_aload_n hx hb dX7_way_189 rfl (lv_at hl 1 rfl) ?_
            have hk56 := kt_m3 hq0
            refine xg7 F hG hq0 5 (by decide) (kw693 F.kd) (v := .ref (g (q0 + 3))) rfl dX7_way_190 ?_
            refine lv_aload_n hx hb dX7_way_193 rfl (lv_at hl 1 rfl) ?_
            have hk57 := kt_m4 hq0
            refine xg7 F hG hq0 6 (by decide) (kw695 F.kd) (v := .ref (g (q0 + 4))) rfl dX7_way_194 ?_
            refine lv_iload hx hb dX7_way_197 (lv_at hl 4 rfl) ?_
            refine lv_iconst (v := 4) hx hb dX7_way_199 (by decide) ?_
            refine lv_idiv hx hb dX7_way_200 (by decide) ?_
            obtain ⟨hi58, h⟩ := chk_e h
            refine r_ald F hG hk57 hi58 dX7_way_201 ?_
            obtain ⟨hi59, h⟩ := chk_e h
            refine r_ald F hG hk56 hi59 dX7_way_202 ?_
            refine lv_iconst (v := 1) hx hb dX7_way_203 (by decide) ?_
            refine lv_iadd hx hb dX7_way_204 ?_
            obtain ⟨hi60, h⟩ := chk_e h
            obtain ⟨M61, eM61, h⟩ := mlet_e h
            refine r_ast F hG hk55 hi60 eM61 dX7_way_205 (fun H locs hG => ?_)
            refine lv_aload_n hx hb dX7_way_206 rfl (lv_at hl 1 rfl) ?_
            have hk62 := kt_m4 hq0
            refine xg7 F hG hq0 6 (by decide) (kw695 F.kd) (v := .ref (g (q0 + 4))) rfl dX7_way_207 ?_
            refine lv_iload hx hb dX7_way_210 (lv_at hl 3 rfl) ?_
            refine lv_iload hx hb dX7_way_212 (lv_at hl 0 rfl) ?_
            obtain ⟨hi63, h⟩ := chk_e h
            obtain ⟨M64, eM64, h⟩ := mlet_e h
            refine r_ast F hG hk62 hi63 eM64 dX7_way_214 (fun H locs hG => ?_)
            obtain ⟨x65, ex65, h⟩ := mlet_e h
            refine lv_iinc (v := x65) (lv' := [(7, .int x65), (9, .int r44), (0, .ref (g q0)), (6, .int y6), (8, .int z8)]) hx hb dX7_way_215 hl (k := 3) rfl (by rw [ex65]; rfl) (by decide) rfl (fun ls hl => ?_)
            obtain ⟨x66, ex66, h⟩ := mlet_e h
            refine lv_iinc (v := x66) (lv' := [(8, .int x66), (7, .int x65), (9, .int r44), (0, .ref (g q0)), (6, .int y6)]) hx hb dX7_way_218 hl (k := 4) rfl (by rw [ex66]; rfl) (by decide) rfl (fun ls hl => ?_)
            refine lv_goto (tgt := 121) hx hb dX7_way_221 (by decide) ?_
            exact ih M64 x65 x66 h _ _ _ hG (lv_sub hl [3, 4, 1, 0] rfl)
          · have h := ite_f h c54
            refine lv_goto (tgt := 218) hx hb dX7_way_180 (by decide) ?_
            obtain ⟨x67, ex67, h⟩ := mlet_e h
            refine lv_iinc (v := x67) (lv' := [(8, .int x67), (9, .int r44), (0, .ref (g q0)), (6, .int y6), (7, .int z7)]) hx hb dX7_way_218 hl (k := 4) rfl (by rw [ex67]; rfl) (by decide) rfl (fun ls hl => ?_)
            refine lv_goto (tgt := 121) hx hb dX7_way_221 (by decide) ?_
            exact ih M z7 x67 h _ _ _ hG (lv_sub hl [2, 3, 4, 0] rfl)
set_option maxHeartbeats 4000000 in
set_option maxRecDepth 100000 in
theorem c_X7_way (l : Launch) (D : va_G) (ca : vCA) (g : Nat → Nat) {fu : Nat} {M : Mem} {a0 : Nat} {x1 : Int32} {x2 : Int32} {x3 : Int32} {x4 : Int32} {M' : Mem} {r : Int32} (ha0 : kd a0 = 7) (h : m_X7_way fu M a0 x1 x2 x3 x4 = some (M', r)) : cM l yX7_way cX7_way 10 (some .int) { frames := 3, cells := 0, slots := 0, locals := 66 } D ca g M [.ref (g a0), .int x1, .int x2, .int x3, .int x4] (fun sz => cQi D ca g sz M' r) := by
  refine mk_Met (by decide) (Nat.le_of_ble_eq_true rfl) ?_
  intro p e s m below meth c F hr hlk hnm hG ls hl
  have hx := F.1
  have hb := F.2.1
  replace hl : lv_has ls 10 [(0, .ref (g a0)), (1, .int x1), (2, .int x2), (3, .int x3), (4, .int x4)] := hl
  unfold m_X7_way at h
  refine lv_aload_n hx hb dX7_way_0 rfl (lv_at hl 0 rfl) ?_
  refine lv_iconst (v := 0) hx hb dX7_way_1 (by decide) ?_
  obtain ⟨M6, eM6, h⟩ := mlet_e h
  refine xp7 F hG ha0 eM6 rfl (by decide) (kw684 F.kd) rfl rfl rfl dX7_way_2 (fun H locs hG => ?_)
  refine lv_iload_n hx hb dX7_way_5 rfl (lv_at hl 1 rfl) ?_
  refine lv_iload_n hx hb dX7_way_6 rfl (lv_at hl 2 rfl) ?_
  obtain ⟨r8, hc7, h⟩ := cb1_e h
  refine k_i (r_runS F hG (c_X7_isCell l D ca g hc7) (kw725 F.kd) (kw726 F.kd) (kw7 F.kd) (kw727 F.kd) yd_X7_isCell ⟨Nat.le_of_ble_eq_true rfl, Nat.le_of_ble_eq_true rfl⟩ rfl hl.1 rfl (Nat.le_of_ble_eq_true rfl) dX7_way_7 ⟨Nat.le_of_ble_eq_true rfl, Nat.le_of_ble_eq_true rfl⟩) hG (fun H locs hG => ?_)
  refine lv_if_eq (tgt := 22) hx hb dX7_way_10 (by decide) (fun c9 => ?_) (fun c9 => ?_)
  · have h := ite_t h c9
    refine lv_aload_n hx hb dX7_way_22 rfl (lv_at hl 0 rfl) ?_
    refine lv_iconst (v := 1) hx hb dX7_way_23 (by decide) ?_
    obtain ⟨M12, r11, hc10, h⟩ := cb2_e h
    refine k_i (r_runV F hG (c_X7_no l D ca g ha0 hc10) (kd_lt ha0 (by decide)) (gd7 ha0) rfl (kw731 F.kd) (kw733 F.kd) (ks_X7_no F.kd) (kw7 F.kd) (kw734 F.kd) yd_X7_no ⟨Nat.le_of_ble_eq_true rfl, Nat.le_of_ble_eq_true rfl⟩ rfl hl.1 rfl (Nat.le_of_ble_eq_true rfl) dX7_way_24 ⟨Nat.le_of_ble_eq_true rfl, Nat.le_of_ble_eq_true rfl⟩) hG (fun H locs hG => ?_)
    obtain ⟨rfl, rfl⟩ := som2 h
    exact end_i F hr hlk hG dX7_way_27
  · have h := ite_f h c9
    refine lv_iload_n hx hb dX7_way_13 rfl (lv_at hl 3 rfl) ?_
    refine lv_iload hx hb dX7_way_14 (lv_at hl 4 rfl) ?_
    obtain ⟨r14, hc13, h⟩ := cb1_e h
    refine k_i (r_runS F hG (c_X7_isCell l D ca g hc13) (kw725 F.kd) (kw726 F.kd) (kw7 F.kd) (kw727 F.kd) yd_X7_isCell ⟨Nat.le_of_ble_eq_true rfl, Nat.le_of_ble_eq_true rfl⟩ rfl hl.1 rfl (Nat.le_of_ble_eq_true rfl) dX7_way_16 ⟨Nat.le_of_ble_eq_true rfl, Nat.le_of_ble_eq_true rfl⟩) hG (fun H locs hG => ?_)
    refine lv_if_ne (tgt := 28) hx hb dX7_way_19 (by decide) (fun c15 => ?_) (fun c15 => ?_)
    · have h := ite_f h c15
      refine lv_bipush (v := 12) hx hb dX7_way_28 (by decide) ?_
      refine lv_iload_n hx hb dX7_way_30 rfl (lv_at hl 2 rfl) ?_
      refine lv_imul hx hb dX7_way_31 ?_
      refine lv_iload_n hx hb dX7_way_32 rfl (lv_at hl 1 rfl) ?_
      refine lv_iadd hx hb dX7_way_33 ?_
      refine lv_topi (fun x16 ex16 => ?_)
      have h := mlet_n h ex16
      refine lv_istore (lv' := [(5, .int x16), (0, .ref (g a0)), (1, .int x1), (2, .int x2), (3, .int x3), (4, .int x4)]) hx hb dX7_way_34 hl (by decide) rfl (fun ls hl => ?_)
      refine lv_bipush (v := 12) hx hb dX7_way_36 (by decide) ?_
      refine lv_iload hx hb dX7_way_38 (lv_at hl 5 rfl) ?_
      refine lv_imul hx hb dX7_way_40 ?_
      refine lv_iload_n hx hb dX7_way_41 rfl (lv_at hl 4 rfl) ?_
      refine lv_iadd hx hb dX7_way_42 ?_
      refine lv_topi (fun x17 ex17 => ?_)
      have h := mlet_n h ex17
      refine lv_istore (lv' := [(6, .int x17), (5, .int x16), (0, .ref (g a0)), (1, .int x1), (2, .int x2), (3, .int x3), (4, .int x4)]) hx hb dX7_way_43 hl (by decide) rfl (fun ls hl => ?_)
      refine lv_aload_n hx hb dX7_way_45 rfl (lv_at hl 2 rfl) ?_
      have hk18 := (show kd 49 = 6 from rfl)
      refine xg7 F hG ha0 7 (by decide) (kw696 F.kd) (v := .ref (g 49)) rfl dX7_way_46 ?_
      have hk19 := kt_s1 hk18
      refine xg6N F hG hk18 1 (by decide) (kw643 F.kd) (v := .ref (g (49 + 1))) rfl dX7_way_49 ?_
      refine lv_iload hx hb dX7_way_52 (lv_at hl 1 rfl) ?_
      obtain ⟨hi20, h⟩ := chk_e h
      refine r_ald F hG hk19 hi20 dX7_way_54 ?_
      refine lv_if_ne (tgt := 71) hx hb dX7_way_55 (by decide) (fun c21 => ?_) (fun c21 => ?_)
      · have h := ite_f h c21
        refine lv_iconst (v := (-1)) hx hb dX7_way_71 (by decide) ?_
        obtain ⟨rfl, rfl⟩ := som2 h
        exact end_i F hr hlk hG dX7_way_72
      · have h := ite_t h c21
        refine lv_aload_n hx hb dX7_way_58 rfl (lv_at hl 2 rfl) ?_
        have hk22 := (show kd 49 = 6 from rfl)
        refine xg7 F hG ha0 7 (by decide) (kw696 F.kd) (v := .ref (g 49)) rfl dX7_way_59 ?_
        have hk23 := kt_s1 hk22
        refine xg6N F hG hk22 1 (by decide) (kw643 F.kd) (v := .ref (g (49 + 1))) rfl dX7_way_62 ?_
        refine lv_iload hx hb dX7_way_65 (lv_at hl 0 rfl) ?_
        obtain ⟨hi24, h⟩ := chk_e h
        refine r_ald F hG hk23 hi24 dX7_way_67 ?_
        refine lv_if_eq (tgt := 73) hx hb dX7_way_68 (by decide) (fun c25 => ?_) (fun c25 => ?_)
        · have h := ite_t h c25
          refine lv_iconst (v := 0) hx hb dX7_way_73 (by decide) ?_
          refine lv_istore (lv' := [(7, .int 0), (6, .int x17), (5, .int x16), (0, .ref (g a0)), (1, .int x1), (2, .int x2), (3, .int x3), (4, .int x4)]) hx hb dX7_way_74 hl (by decide) rfl (fun ls hl => ?_)
          obtain ⟨o31, ho32, h⟩ := cb1_e h
          refine m_X7_way_L76_w (out := o31) F ha0 ?_ _ _ _ ho32 _ _ _ hG (lv_sub hl [3, 2, 1, 0] rfl)
          · intro M33 H locs ls eo hG hl
            subst o31
            refine lv_aload_n hx hb dX7_way_99 rfl (lv_at hl 0 rfl) ?_
            have hk34 := kt_m3 ha0
            refine xg7 F hG ha0 5 (by decide) (kw693 F.kd) (v := .ref (g (a0 + 3))) rfl dX7_way_100 ?_
            refine lv_iload hx hb dX7_way_103 (lv_at hl 1 rfl) ?_
            refine lv_iconst (v := 0) hx hb dX7_way_105 (by decide) ?_
            obtain ⟨hi35, h⟩ := chk_e h
            obtain ⟨M36, eM36, h⟩ := mlet_e h
            refine r_ast F hG hk34 hi35 eM36 dX7_way_106 (fun H locs hG => ?_)
            refine lv_aload_n hx hb dX7_way_107 rfl (lv_at hl 0 rfl) ?_
            have hk37 := kt_m4 ha0
            refine xg7 F hG ha0 6 (by decide) (kw695 F.kd) (v := .ref (g (a0 + 4))) rfl dX7_way_108 ?_
            refine lv_iconst (v := 0) hx hb dX7_way_111 (by decide) ?_
            refine lv_iload hx hb dX7_way_112 (lv_at hl 1 rfl) ?_
            obtain ⟨hi38, h⟩ := chk_e h
            obtain ⟨M39, eM39, h⟩ := mlet_e h
            refine r_ast F hG hk37 hi38 eM39 dX7_way_114 (fun H locs hG => ?_)
            refine lv_iconst (v := 1) hx hb dX7_way_115 (by decide) ?_
            refine lv_istore (lv' := [(7, .int 1), (0, .ref (g a0)), (5, .int x16), (6, .int x17)]) hx hb dX7_way_116 hl (by decide) rfl (fun ls hl => ?_)
            refine lv_iconst (v := 0) hx hb dX7_way_118 (by decide) ?_
            refine lv_istore (lv' := [(8, .int 0), (7, .int 1), (0, .ref (g a0)), (5, .int x16), (6, .int x17)]) hx hb dX7_way_119 hl (by decide) rfl (fun ls hl => ?_)
            obtain ⟨o68, ho69, h⟩ := cb1_e h
            refine m_X7_way_L121_w (out := o68) F ha0 ?_ _ _ _ _ ho69 _ _ _ hG (lv_sub hl [2, 4, 1, 0] rfl)
            · intro M70 H locs ls eo hG hl
              subst o68
              refine lv_aload_n hx hb dX7_way_224 rfl (lv_at hl 0 rfl) ?_
              have hk71 := kt_m3 ha0
              refine xg7 F hG ha0 5 (by decide) (kw693 F.kd) (v := .ref (g (a0 + 3))) rfl dX7_way_225 ?_
              refine lv_iload hx hb dX7_way_228 (lv_at hl 1 rfl) ?_
              obtain ⟨hi72, h⟩ := chk_e h
              refine r_ald F hG hk71 hi72 dX7_way_230 ?_
              refine lv_sipush (v := 9999) hx hb dX7_way_231 (by decide) ?_
              refine lv_icmp_ne (tgt := 241) hx hb dX7_way_234 (by decide) (fun c73 => ?_) (fun c73 => ?_)
              · have h := ite_f h c73
                refine lv_aload_n hx hb dX7_way_241 rfl (lv_at hl 0 rfl) ?_
                have hk74 := kt_m3 ha0
                refine xg7 F hG ha0 5 (by decide) (kw693 F.kd) (v := .ref (g (a0 + 3))) rfl dX7_way_242 ?_
                refine lv_iload hx hb dX7_way_245 (lv_at hl 1 rfl) ?_
                obtain ⟨hi75, h⟩ := chk_e h
                refine r_ald F hG hk74 hi75 dX7_way_247 ?_
                obtain ⟨rfl, rfl⟩ := som2 h
                exact end_i F hr hlk hG dX7_way_248
              · have h := ite_t h c73
                refine lv_iconst (v := (-1)) hx hb dX7_way_237 (by decide) ?_
                refine lv_goto (tgt := 248) hx hb dX7_way_238 (by decide) ?_
                obtain ⟨rfl, rfl⟩ := som2 h
                exact end_i F hr hlk hG dX7_way_248
        · have h := ite_f h c25
          refine lv_iconst (v := (-1)) hx hb dX7_way_71 (by decide) ?_
          obtain ⟨rfl, rfl⟩ := som2 h
          exact end_i F hr hlk hG dX7_way_72
    · have h := ite_t h c15
      refine lv_aload_n hx hb dX7_way_22 rfl (lv_at hl 0 rfl) ?_
      refine lv_iconst (v := 1) hx hb dX7_way_23 (by decide) ?_
      obtain ⟨M78, r77, hc76, h⟩ := cb2_e h
      refine k_i (r_runV F hG (c_X7_no l D ca g ha0 hc76) (kd_lt ha0 (by decide)) (gd7 ha0) rfl (kw731 F.kd) (kw733 F.kd) (ks_X7_no F.kd) (kw7 F.kd) (kw734 F.kd) yd_X7_no ⟨Nat.le_of_ble_eq_true rfl, Nat.le_of_ble_eq_true rfl⟩ rfl hl.1 rfl (Nat.le_of_ble_eq_true rfl) dX7_way_24 ⟨Nat.le_of_ble_eq_true rfl, Nat.le_of_ble_eq_true rfl⟩) hG (fun H locs hG => ?_)
      obtain ⟨rfl, rfl⟩ := som2 h
      exact end_i F hr hlk hG dX7_way_27
set_option maxHeartbeats 4000000 in
set_option maxRecDepth 100000 in
theorem c_X7_shuts (l : Launch) (D : va_G) (ca : vCA) (g : Nat → Nat) {fu : Nat} {M : Mem} {a0 : Nat} {M' : Mem} {r : Int32} (ha0 : kd a0 = 7) (h : m_X7_shuts fu M a0 = some (M', r)) : cM l yX7_shuts cX7_shuts 1 (some .int) { frames := 3, cells := 0, slots := 0, locals := 70 } D ca g M [.ref (g a0)] (fun sz => cQi D ca g sz M' r) := by
  refine mk_Met (by decide) (Nat.le_of_ble_eq_true rfl) ?_
  intro p e s m below meth c F hr hlk hnm hG ls hl
  have hx := F.1
  have hb := F.2.1
  replace hl : lv_has ls 1 [(0, .ref (g a0))] := hl
  unfold m_X7_shuts at h
  refine lv_aload_n hx hb dX7_shuts_0 rfl (lv_at hl 0 rfl) ?_
  refine lv_iconst (v := 0) hx hb dX7_shuts_1 (by decide) ?_
  obtain ⟨M2, eM2, h⟩ := mlet_e h
  refine xp7 F hG ha0 eM2 rfl (by decide) (kw684 F.kd) rfl rfl rfl dX7_shuts_2 (fun H locs hG => ?_)
  refine lv_aload_n hx hb dX7_shuts_5 rfl (lv_at hl 0 rfl) ?_
  have hk3 := (show kd 49 = 6 from rfl)
  refine xg7 F hG ha0 7 (by decide) (kw696 F.kd) (v := .ref (g 49)) rfl dX7_shuts_6 ?_
  obtain ⟨M6, r5, hc4, h⟩ := cb2_e h
  refine k_i (r_runV F hG (c_X6_shuts l D ca g hk3 hc4) (kd_lt hk3 (by decide)) (gd6 hk3) rfl (kw840 F.kd) (kw841 F.kd) (kw842 F.kd) (kw8 F.kd) (kw843 F.kd) yd_X6_shuts ⟨Nat.le_of_ble_eq_true rfl, Nat.le_of_ble_eq_true rfl⟩ rfl hl.1 rfl (Nat.le_of_ble_eq_true rfl) dX7_shuts_9 ⟨Nat.le_of_ble_eq_true rfl, Nat.le_of_ble_eq_true rfl⟩) hG (fun H locs hG => ?_)
  obtain ⟨rfl, rfl⟩ := som2 h
  exact end_i F hr hlk hG dX7_shuts_12
set_option maxHeartbeats 4000000 in
set_option maxRecDepth 100000 in
theorem m_X7_pass_L31_w {p : Program} {l : Launch} {e : Env} {s : State} {m : MethodId} {args : Array Value} {below : List Frame} {meth : Method} {c : Code} {Q : State → Prop} {D : va_G} {ca : vCA} {g : Nat → Nat} {fu : Nat} {q0 : Nat} {y1 : Int32} {y2 : Int32} {out : Mem} (F : FX p m c cX7_pass 4 s D ca g RX7) (hq0 : kd q0 = 7)
    (K0 : ∀ (M1 : Mem) (H : Heap) (locs : List Loc) (ls : Array Slot), out = M1 → GW D ca g s M1 H locs → lv_has ls 4 [(0, .ref (g q0)), (2, .int y2)] → W p l e ({ frames := 6, cells := 0, slots := 0, locals := 132 }) s m args below meth c H locs 0 0 Q (F0 m 49 ls [])) :
    ∀ (n : Nat) (M : Mem) (z3 : Int32), m_X7_pass_L31 fu q0 y1 y2 n M z3 = some out → ∀ (H : Heap) (locs : List Loc) (ls : Array Slot), GW D ca g s M H locs → lv_has ls 4 [(0, .ref (g q0)), (1, .int y1), (2, .int y2), (3, .int z3)] → W p l e ({ frames := 6, cells := 0, slots := 0, locals := 132 }) s m args below meth c H locs 0 0 Q (F0 m 31 ls []) := by
  have hx := F.1
  have hb := F.2.1
  intro n
  induction n with
  | zero =>
    intro M z3 h
    exact absurd h (by simp [m_X7_pass_L31])
  | succ n ih =>
    intro M z3 h H locs ls hG hl
    rw [m_X7_pass_L31] at h
    refine lv_iload_n hx hb dX7_pass_31 rfl (lv_at hl 3 rfl) ?_
    refine lv_iload_n hx hb dX7_pass_32 rfl (lv_at hl 1 rfl) ?_
    refine lv_icmp_ge (tgt := 49) hx hb dX7_pass_33 (by decide) (fun c10 => ?_) (fun c10 => ?_)
    · have h := ite_t h c10
      exact K0 _ _ _ _ (som1 h).symm hG (lv_sub hl [0, 2] rfl)
    · have h := ite_f h c10
      refine lv_aload_n hx hb dX7_pass_36 rfl (lv_at hl 0 rfl) ?_
      have hk11 := (show kd 49 = 6 from rfl)
      refine xg7 F hG hq0 7 (by decide) (kw696 F.kd) (v := .ref (g 49)) rfl dX7_pass_37 ?_
      obtain ⟨M14, hc12, h⟩ := cb1_e h
      refine k_v (r_runV F hG (c_X6_pass l D ca g hk11 hc12) (kd_lt hk11 (by decide)) (gd6 hk11) rfl (kw857 F.kd) (kw858 F.kd) (kw859 F.kd) (kw8 F.kd) (kw860 F.kd) yd_X6_pass ⟨Nat.le_of_ble_eq_true rfl, Nat.le_of_ble_eq_true rfl⟩ rfl hl.1 rfl (Nat.le_of_ble_eq_true rfl) dX7_pass_40 ⟨Nat.le_of_ble_eq_true rfl, Nat.le_of_ble_eq_true rfl⟩) hG (fun H locs hG => ?_)
      obtain ⟨x15, ex15, h⟩ := mlet_e h
      refine lv_iinc (v := x15) (lv' := [(3, .int x15), (0, .ref (g q0)), (1, .int y1), (2, .int y2)]) hx hb dX7_pass_43 hl (k := 3) rfl (by rw [ex15]; rfl) (by decide) rfl (fun ls hl => ?_)
      refine lv_goto (tgt := 31) hx hb dX7_pass_46 (by decide) ?_
      exact ih M14 x15 h _ _ _ hG (lv_sub hl [1, 2, 3, 0] rfl)
set_option maxHeartbeats 4000000 in
set_option maxRecDepth 100000 in
theorem c_X7_pass (l : Launch) (D : va_G) (ca : vCA) (g : Nat → Nat) {fu : Nat} {M : Mem} {a0 : Nat} {x1 : Int32} {M' : Mem} {r : Int32} (ha0 : kd a0 = 7) (h : m_X7_pass fu M a0 x1 = some (M', r)) : cM l yX7_pass cX7_pass 4 (some .int) { frames := 6, cells := 0, slots := 0, locals := 132 } D ca g M [.ref (g a0), .int x1] (fun sz => cQi D ca g sz M' r) := by
  refine mk_Met (by decide) (Nat.le_of_ble_eq_true rfl) ?_
  intro p e s m below meth c F hr hlk hnm hG ls hl
  have hx := F.1
  have hb := F.2.1
  replace hl : lv_has ls 4 [(0, .ref (g a0)), (1, .int x1)] := hl
  unfold m_X7_pass at h
  refine lv_aload_n hx hb dX7_pass_0 rfl (lv_at hl 0 rfl) ?_
  refine lv_iconst (v := 0) hx hb dX7_pass_1 (by decide) ?_
  obtain ⟨M3, eM3, h⟩ := mlet_e h
  refine xp7 F hG ha0 eM3 rfl (by decide) (kw684 F.kd) rfl rfl rfl dX7_pass_2 (fun H locs hG => ?_)
  refine lv_iload_n hx hb dX7_pass_5 rfl (lv_at hl 1 rfl) ?_
  refine lv_iconst (v := 1) hx hb dX7_pass_6 (by decide) ?_
  refine lv_bipush (v := 60) hx hb dX7_pass_7 (by decide) ?_
  obtain ⟨r5, hc4, h⟩ := cb1_e h
  refine k_i (r_runS F hG (c_X7_isIn l D ca g hc4) (kw728 F.kd) (kw729 F.kd) (kw7 F.kd) (kw730 F.kd) yd_X7_isIn ⟨Nat.le_of_ble_eq_true rfl, Nat.le_of_ble_eq_true rfl⟩ rfl hl.1 rfl (Nat.le_of_ble_eq_true rfl) dX7_pass_9 ⟨Nat.le_of_ble_eq_true rfl, Nat.le_of_ble_eq_true rfl⟩) hG (fun H locs hG => ?_)
  refine lv_if_ne (tgt := 21) hx hb dX7_pass_12 (by decide) (fun c6 => ?_) (fun c6 => ?_)
  · have h := ite_f h c6
    refine lv_aload_n hx hb dX7_pass_21 rfl (lv_at hl 0 rfl) ?_
    have hk7 := (show kd 49 = 6 from rfl)
    refine xg7 F hG ha0 7 (by decide) (kw696 F.kd) (v := .ref (g 49)) rfl dX7_pass_22 ?_
    obtain ⟨r9, hc8, h⟩ := cb1_e h
    refine k_i (r_runV F hG (c_X6_allPeople l D ca g hk7 hc8) (kd_lt hk7 (by decide)) (gd6 hk7) rfl (kw821 F.kd) (kw822 F.kd) (kw823 F.kd) (kw8 F.kd) (kw824 F.kd) yd_X6_allPeople ⟨Nat.le_of_ble_eq_true rfl, Nat.le_of_ble_eq_true rfl⟩ rfl hl.1 rfl (Nat.le_of_ble_eq_true rfl) dX7_pass_25 ⟨Nat.le_of_ble_eq_true rfl, Nat.le_of_ble_eq_true rfl⟩) hG (fun H locs hG => ?_)
    refine lv_istore_n (lv' := [(2, .int r9), (0, .ref (g a0)), (1, .int x1)]) hx hb dX7_pass_28 rfl hl (by decide) rfl (fun ls hl => ?_)
    refine lv_iconst (v := 0) hx hb dX7_pass_29 (by decide) ?_
    refine lv_istore_n (lv' := [(3, .int 0), (2, .int r9), (0, .ref (g a0)), (1, .int x1)]) hx hb dX7_pass_30 rfl hl (by decide) rfl (fun ls hl => ?_)
    obtain ⟨o16, ho17, h⟩ := cb1_e h
    refine m_X7_pass_L31_w (out := o16) F ha0 ?_ _ _ _ ho17 _ _ _ hG (lv_sub hl [2, 3, 1, 0] rfl)
    · intro M18 H locs ls eo hG hl
      subst o16
      refine lv_iload_n hx hb dX7_pass_49 rfl (lv_at hl 1 rfl) ?_
      refine lv_aload_n hx hb dX7_pass_50 rfl (lv_at hl 0 rfl) ?_
      have hk19 := (show kd 49 = 6 from rfl)
      refine xg7 F hG ha0 7 (by decide) (kw696 F.kd) (v := .ref (g 49)) rfl dX7_pass_51 ?_
      obtain ⟨r21, hc20, h⟩ := cb1_e h
      refine k_i (r_runV F hG (c_X6_allPeople l D ca g hk19 hc20) (kd_lt hk19 (by decide)) (gd6 hk19) rfl (kw821 F.kd) (kw822 F.kd) (kw823 F.kd) (kw8 F.kd) (kw824 F.kd) yd_X6_allPeople ⟨Nat.le_of_ble_eq_true rfl, Nat.le_of_ble_eq_true rfl⟩ rfl hl.1 rfl (Nat.le_of_ble_eq_true rfl) dX7_pass_54 ⟨Nat.le_of_ble_eq_true rfl, Nat.le_of_ble_eq_true rfl⟩) hG (fun H locs hG => ?_)
      refine lv_isub hx hb dX7_pass_57 ?_
      obtain ⟨rfl, rfl⟩ := som2 h
      exact end_i F hr hlk hG dX7_pass_58
  · have h := ite_t h c6
    refine lv_aload_n hx hb dX7_pass_15 rfl (lv_at hl 0 rfl) ?_
    refine lv_iconst (v := 1) hx hb dX7_pass_16 (by decide) ?_
    obtain ⟨M24, r23, hc22, h⟩ := cb2_e h
    refine k_i (r_runV F hG (c_X7_no l D ca g ha0 hc22) (kd_lt ha0 (by decide)) (gd7 ha0) rfl (kw731 F.kd) (kw733 F.kd) (ks_X7_no F.kd) (kw7 F.kd) (kw734 F.kd) yd_X7_no ⟨Nat.le_of_ble_eq_true rfl, Nat.le_of_ble_eq_true rfl⟩ rfl hl.1 rfl (Nat.le_of_ble_eq_true rfl) dX7_pass_17 ⟨Nat.le_of_ble_eq_true rfl, Nat.le_of_ble_eq_true rfl⟩) hG (fun H locs hG => ?_)
    obtain ⟨rfl, rfl⟩ := som2 h
    exact end_i F hr hlk hG dX7_pass_20
set_option maxHeartbeats 4000000 in
set_option maxRecDepth 100000 in
theorem m_X7_foresee_L49_w {p : Program} {l : Launch} {e : Env} {s : State} {m : MethodId} {args : Array Value} {below : List Frame} {meth : Method} {c : Code} {Q : State → Prop} {D : va_G} {ca : vCA} {g : Nat → Nat} {fu : Nat} {q0 : Nat} {y1 : Int32} {y2 : Int32} {out : Mem} (F : FX p m c cX7_foresee 4 s D ca g RX7) (hq0 : kd q0 = 7)
    (K0 : ∀ (M1 : Mem) (H : Heap) (locs : List Loc) (ls : Array Slot), out = M1 → GW D ca g s M1 H locs → lv_has ls 4 [(0, .ref (g q0)), (2, .int y2)] → W p l e ({ frames := 6, cells := 0, slots := 0, locals := 132 }) s m args below meth c H locs 0 0 Q (F0 m 67 ls [])) :
    ∀ (n : Nat) (M : Mem) (z3 : Int32), m_X7_foresee_L49 fu q0 y1 y2 n M z3 = some out → ∀ (H : Heap) (locs : List Loc) (ls : Array Slot), GW D ca g s M H locs → lv_has ls 4 [(0, .ref (g q0)), (1, .int y1), (2, .int y2), (3, .int z3)] → W p l e ({ frames := 6, cells := 0, slots := 0, locals := 132 }) s m args below meth c H locs 0 0 Q (F0 m 49 ls []) := by
  have hx := F.1
  have hb := F.2.1
  intro n
  induction n with
  | zero =>
    intro M z3 h
    exact absurd h (by simp [m_X7_foresee_L49])
  | succ n ih =>
    intro M z3 h H locs ls hG hl
    rw [m_X7_foresee_L49] at h
    refine lv_iload_n hx hb dX7_foresee_49 rfl (lv_at hl 3 rfl) ?_
    refine lv_iload_n hx hb dX7_foresee_50 rfl (lv_at hl 1 rfl) ?_
    refine lv_icmp_ge (tgt := 67) hx hb dX7_foresee_51 (by decide) (fun c16 => ?_) (fun c16 => ?_)
    · have h := ite_t h c16
      exact K0 _ _ _ _ (som1 h).symm hG (lv_sub hl [0, 2] rfl)
    · have h := ite_f h c16
      refine lv_aload_n hx hb dX7_foresee_54 rfl (lv_at hl 0 rfl) ?_
      have hk17 := (show kd 59 = 6 from rfl)
      refine xg7 F hG hq0 8 (by decide) (kw697 F.kd) (v := .ref (g 59)) rfl dX7_foresee_55 ?_
      obtain ⟨M20, hc18, h⟩ := cb1_e h
      refine k_v (r_runV F hG (c_X6_pass l D ca g hk17 hc18) (kd_lt hk17 (by decide)) (gd6 hk17) rfl (kw857 F.kd) (kw858 F.kd) (kw859 F.kd) (kw8 F.kd) (kw860 F.kd) yd_X6_pass ⟨Nat.le_of_ble_eq_true rfl, Nat.le_of_ble_eq_true rfl⟩ rfl hl.1 rfl (Nat.le_of_ble_eq_true rfl) dX7_foresee_58 ⟨Nat.le_of_ble_eq_true rfl, Nat.le_of_ble_eq_true rfl⟩) hG (fun H locs hG => ?_)
      obtain ⟨x21, ex21, h⟩ := mlet_e h
      refine lv_iinc (v := x21) (lv' := [(3, .int x21), (0, .ref (g q0)), (1, .int y1), (2, .int y2)]) hx hb dX7_foresee_61 hl (k := 3) rfl (by rw [ex21]; rfl) (by decide) rfl (fun ls hl => ?_)
      refine lv_goto (tgt := 49) hx hb dX7_foresee_64 (by decide) ?_
      exact ih M20 x21 h _ _ _ hG (lv_sub hl [1, 2, 3, 0] rfl)
set_option maxHeartbeats 4000000 in
set_option maxRecDepth 100000 in
theorem c_X7_foresee (l : Launch) (D : va_G) (ca : vCA) (g : Nat → Nat) {fu : Nat} {M : Mem} {a0 : Nat} {x1 : Int32} {x2 : Int32} {M' : Mem} {r : Int32} (ha0 : kd a0 = 7) (h : m_X7_foresee fu M a0 x1 x2 = some (M', r)) : cM l yX7_foresee cX7_foresee 4 (some .int) { frames := 6, cells := 0, slots := 0, locals := 132 } D ca g M [.ref (g a0), .int x1, .int x2] (fun sz => cQi D ca g sz M' r) := by
  refine mk_Met (by decide) (Nat.le_of_ble_eq_true rfl) ?_
  intro p e s m below meth c F hr hlk hnm hG ls hl
  have hx := F.1
  have hb := F.2.1
  replace hl : lv_has ls 4 [(0, .ref (g a0)), (1, .int x1), (2, .int x2)] := hl
  unfold m_X7_foresee at h
  refine lv_aload_n hx hb dX7_foresee_0 rfl (lv_at hl 0 rfl) ?_
  refine lv_iconst (v := 0) hx hb dX7_foresee_1 (by decide) ?_
  obtain ⟨M4, eM4, h⟩ := mlet_e h
  refine xp7 F hG ha0 eM4 rfl (by decide) (kw684 F.kd) rfl rfl rfl dX7_foresee_2 (fun H locs hG => ?_)
  refine lv_iload_n hx hb dX7_foresee_5 rfl (lv_at hl 1 rfl) ?_
  refine lv_iconst (v := 1) hx hb dX7_foresee_6 (by decide) ?_
  refine lv_bipush (v := 60) hx hb dX7_foresee_7 (by decide) ?_
  obtain ⟨r6, hc5, h⟩ := cb1_e h
  refine k_i (r_runS F hG (c_X7_isIn l D ca g hc5) (kw728 F.kd) (kw729 F.kd) (kw7 F.kd) (kw730 F.kd) yd_X7_isIn ⟨Nat.le_of_ble_eq_true rfl, Nat.le_of_ble_eq_true rfl⟩ rfl hl.1 rfl (Nat.le_of_ble_eq_true rfl) dX7_foresee_9 ⟨Nat.le_of_ble_eq_true rfl, Nat.le_of_ble_eq_true rfl⟩) hG (fun H locs hG => ?_)
  refine lv_if_ne (tgt := 21) hx hb dX7_foresee_12 (by decide) (fun c7 => ?_) (fun c7 => ?_)
  · have h := ite_f h c7
    refine lv_iload_n hx hb dX7_foresee_21 rfl (lv_at hl 2 rfl) ?_
    refine lv_iconst (v := 0) hx hb dX7_foresee_22 (by decide) ?_
    refine lv_iconst (v := 2) hx hb dX7_foresee_23 (by decide) ?_
    obtain ⟨r9, hc8, h⟩ := cb1_e h
    refine k_i (r_runS F hG (c_X7_isIn l D ca g hc8) (kw728 F.kd) (kw729 F.kd) (kw7 F.kd) (kw730 F.kd) yd_X7_isIn ⟨Nat.le_of_ble_eq_true rfl, Nat.le_of_ble_eq_true rfl⟩ rfl hl.1 rfl (Nat.le_of_ble_eq_true rfl) dX7_foresee_24 ⟨Nat.le_of_ble_eq_true rfl, Nat.le_of_ble_eq_true rfl⟩) hG (fun H locs hG => ?_)
    refine lv_if_ne (tgt := 36) hx hb dX7_foresee_27 (by decide) (fun c10 => ?_) (fun c10 => ?_)
    · have h := ite_f h c10
      refine lv_aload_n hx hb dX7_foresee_36 rfl (lv_at hl 0 rfl) ?_
      have hk11 := (show kd 59 = 6 from rfl)
      refine xg7 F hG ha0 8 (by decide) (kw697 F.kd) (v := .ref (g 59)) rfl dX7_foresee_37 ?_
      refine lv_aload_n hx hb dX7_foresee_40 rfl (lv_at hl 0 rfl) ?_
      have hk12 := (show kd 49 = 6 from rfl)
      refine xg7 F hG ha0 7 (by decide) (kw696 F.kd) (v := .ref (g 49)) rfl dX7_foresee_41 ?_
      obtain ⟨M15, hc13, h⟩ := cb1_e h
      refine k_v (r_runV F hG (c_X6_become l D ca g hk11 hk12 hc13) (kd_lt hk11 (by decide)) (gd6 hk11) rfl (kw897 F.kd) (kw898 F.kd) (kw899 F.kd) (kw8 F.kd) (kw900 F.kd) yd_X6_become ⟨Nat.le_of_ble_eq_true rfl, Nat.le_of_ble_eq_true rfl⟩ rfl hl.1 rfl (Nat.le_of_ble_eq_true rfl) dX7_foresee_44 ⟨Nat.le_of_ble_eq_true rfl, Nat.le_of_ble_eq_true rfl⟩) hG (fun H locs hG => ?_)
      refine lv_iconst (v := 0) hx hb dX7_foresee_47 (by decide) ?_
      refine lv_istore_n (lv' := [(3, .int 0), (0, .ref (g a0)), (1, .int x1), (2, .int x2)]) hx hb dX7_foresee_48 rfl hl (by decide) rfl (fun ls hl => ?_)
      obtain ⟨o22, ho23, h⟩ := cb1_e h
      refine m_X7_foresee_L49_w (out := o22) F ha0 ?_ _ _ _ ho23 _ _ _ hG (lv_sub hl [1, 2, 3, 0] rfl)
      · intro M24 H locs ls eo hG hl
        subst o22
        refine lv_iload_n hx hb dX7_foresee_67 rfl (lv_at hl 1 rfl) ?_
        refine lv_if_ne (tgt := 81) hx hb dX7_foresee_68 (by decide) (fun c25 => ?_) (fun c25 => ?_)
        · have h := ite_f h c25
          refine lv_iload_n hx hb dX7_foresee_81 rfl (lv_at hl 1 rfl) ?_
          refine lv_iconst (v := 1) hx hb dX7_foresee_82 (by decide) ?_
          refine lv_icmp_ne (tgt := 96) hx hb dX7_foresee_83 (by decide) (fun c26 => ?_) (fun c26 => ?_)
          · have h := ite_f h c26
            refine lv_aload_n hx hb dX7_foresee_96 rfl (lv_at hl 0 rfl) ?_
            have hk27 := (show kd 59 = 6 from rfl)
            refine xg7 F hG ha0 8 (by decide) (kw697 F.kd) (v := .ref (g 59)) rfl dX7_foresee_97 ?_
            obtain ⟨M30, r29, hc28, h⟩ := cb2_e h
            refine k_i (r_runV F hG (c_X6_shuts l D ca g hk27 hc28) (kd_lt hk27 (by decide)) (gd6 hk27) rfl (kw840 F.kd) (kw841 F.kd) (kw842 F.kd) (kw8 F.kd) (kw843 F.kd) yd_X6_shuts ⟨Nat.le_of_ble_eq_true rfl, Nat.le_of_ble_eq_true rfl⟩ rfl hl.1 rfl (Nat.le_of_ble_eq_true rfl) dX7_foresee_100 ⟨Nat.le_of_ble_eq_true rfl, Nat.le_of_ble_eq_true rfl⟩) hG (fun H locs hG => ?_)
            obtain ⟨rfl, rfl⟩ := som2 h
            exact end_i F hr hlk hG dX7_foresee_103
          · have h := ite_t h c26
            refine lv_aload_n hx hb dX7_foresee_86 rfl (lv_at hl 0 rfl) ?_
            have hk31 := (show kd 59 = 6 from rfl)
            refine xg7 F hG ha0 8 (by decide) (kw697 F.kd) (v := .ref (g 59)) rfl dX7_foresee_87 ?_
            obtain ⟨r33, hc32, h⟩ := cb1_e h
            refine k_i (r_runV F hG (c_X6_barricades l D ca g hk31 hc32) (kd_lt hk31 (by decide)) (gd6 hk31) rfl (kw812 F.kd) (kw813 F.kd) (kw814 F.kd) (kw8 F.kd) (kw815 F.kd) yd_X6_barricades ⟨Nat.le_of_ble_eq_true rfl, Nat.le_of_ble_eq_true rfl⟩ rfl hl.1 rfl (Nat.le_of_ble_eq_true rfl) dX7_foresee_90 ⟨Nat.le_of_ble_eq_true rfl, Nat.le_of_ble_eq_true rfl⟩) hG (fun H locs hG => ?_)
            refine lv_goto (tgt := 103) hx hb dX7_foresee_93 (by decide) ?_
            obtain ⟨rfl, rfl⟩ := som2 h
            exact end_i F hr hlk hG dX7_foresee_103
        · have h := ite_t h c25
          refine lv_aload_n hx hb dX7_foresee_71 rfl (lv_at hl 0 rfl) ?_
          have hk34 := (show kd 59 = 6 from rfl)
          refine xg7 F hG ha0 8 (by decide) (kw697 F.kd) (v := .ref (g 59)) rfl dX7_foresee_72 ?_
          obtain ⟨r36, hc35, h⟩ := cb1_e h
          refine k_i (r_runV F hG (c_X6_allPeople l D ca g hk34 hc35) (kd_lt hk34 (by decide)) (gd6 hk34) rfl (kw821 F.kd) (kw822 F.kd) (kw823 F.kd) (kw8 F.kd) (kw824 F.kd) yd_X6_allPeople ⟨Nat.le_of_ble_eq_true rfl, Nat.le_of_ble_eq_true rfl⟩ rfl hl.1 rfl (Nat.le_of_ble_eq_true rfl) dX7_foresee_75 ⟨Nat.le_of_ble_eq_true rfl, Nat.le_of_ble_eq_true rfl⟩) hG (fun H locs hG => ?_)
          refine lv_goto (tgt := 103) hx hb dX7_foresee_78 (by decide) ?_
          obtain ⟨rfl, rfl⟩ := som2 h
          exact end_i F hr hlk hG dX7_foresee_103
    · have h := ite_t h c10
      refine lv_aload_n hx hb dX7_foresee_30 rfl (lv_at hl 0 rfl) ?_
      refine lv_iconst (v := 2) hx hb dX7_foresee_31 (by decide) ?_
      obtain ⟨M39, r38, hc37, h⟩ := cb2_e h
      refine k_i (r_runV F hG (c_X7_no l D ca g ha0 hc37) (kd_lt ha0 (by decide)) (gd7 ha0) rfl (kw731 F.kd) (kw733 F.kd) (ks_X7_no F.kd) (kw7 F.kd) (kw734 F.kd) yd_X7_no ⟨Nat.le_of_ble_eq_true rfl, Nat.le_of_ble_eq_true rfl⟩ rfl hl.1 rfl (Nat.le_of_ble_eq_true rfl) dX7_foresee_32 ⟨Nat.le_of_ble_eq_true rfl, Nat.le_of_ble_eq_true rfl⟩) hG (fun H locs hG => ?_)
      obtain ⟨rfl, rfl⟩ := som2 h
      exact end_i F hr hlk hG dX7_foresee_35
  · have h := ite_t h c7
    refine lv_aload_n hx hb dX7_foresee_15 rfl (lv_at hl 0 rfl) ?_
    refine lv_iconst (v := 1) hx hb dX7_foresee_16 (by decide) ?_
    obtain ⟨M42, r41, hc40, h⟩ := cb2_e h
    refine k_i (r_runV F hG (c_X7_no l D ca g ha0 hc40) (kd_lt ha0 (by decide)) (gd7 ha0) rfl (kw731 F.kd) (kw733 F.kd) (ks_X7_no F.kd) (kw7 F.kd) (kw734 F.kd) yd_X7_no ⟨Nat.le_of_ble_eq_true rfl, Nat.le_of_ble_eq_true rfl⟩ rfl hl.1 rfl (Nat.le_of_ble_eq_true rfl) dX7_foresee_17 ⟨Nat.le_of_ble_eq_true rfl, Nat.le_of_ble_eq_true rfl⟩) hG (fun H locs hG => ?_)
    obtain ⟨rfl, rfl⟩ := som2 h
    exact end_i F hr hlk hG dX7_foresee_20
set_option maxHeartbeats 4000000 in
set_option maxRecDepth 100000 in
theorem m_X7_advise_L42_w {p : Program} {l : Launch} {e : Env} {s : State} {m : MethodId} {args : Array Value} {below : List Frame} {meth : Method} {c : Code} {Q : State → Prop} {D : va_G} {ca : vCA} {g : Nat → Nat} {fu : Nat} {q0 : Nat} {y1 : Int32} {out : Mem × Int32} (F : FX p m c cX7_advise 6 s D ca g RX7) (hq0 : kd q0 = 7)
    (K0 : ∀ (M1 : Mem) (u2 : Int32) (H : Heap) (locs : List Loc) (ls : Array Slot), out = (M1, u2) → GW D ca g s M1 H locs → lv_has ls 6 [(2, .int u2)] → W p l e ({ frames := 6, cells := 0, slots := 0, locals := 132 }) s m args below meth c H locs 0 0 Q (F0 m 121 ls [])) :
    ∀ (n : Nat) (M : Mem) (z2 : Int32) (z3 : Int32) (z4 : Int32), m_X7_advise_L42 fu q0 y1 n M z2 z3 z4 = some out → ∀ (H : Heap) (locs : List Loc) (ls : Array Slot), GW D ca g s M H locs → lv_has ls 6 [(0, .ref (g q0)), (1, .int y1), (2, .int z2), (3, .int z3), (4, .int z4)] → W p l e ({ frames := 6, cells := 0, slots := 0, locals := 132 }) s m args below meth c H locs 0 0 Q (F0 m 42 ls []) := by
  have hx := F.1
  have hb := F.2.1
  intro n
  induction n with
  | zero =>
    intro M z2 z3 z4 h
    exact absurd h (by simp [m_X7_advise_L42])
  | succ n ih =>
    intro M z2 z3 z4 h H locs ls hG hl
    rw [m_X7_advise_L42] at h
    refine lv_iload hx hb dX7_advise_42 (lv_at hl 4 rfl) ?_
    refine lv_bipush (v := 12) hx hb dX7_advise_44 (by decide) ?_
    refine lv_icmp_ge (tgt := 121) hx hb dX7_advise_46 (by decide) (fun c11 => ?_) (fun c11 => ?_)
    · have h := ite_t h c11
      exact K0 _ _ _ _ _ (som1 h).symm hG (lv_sub hl [2] rfl)
    · have h := ite_f h c11
      refine lv_aload_n hx hb dX7_advise_49 rfl (lv_at hl 0 rfl) ?_
      have hk12 := (show kd 59 = 6 from rfl)
      refine xg7 F hG hq0 8 (by decide) (kw697 F.kd) (v := .ref (g 59)) rfl dX7_advise_50 ?_
      refine lv_aload_n hx hb dX7_advise_53 rfl (lv_at hl 0 rfl) ?_
      have hk13 := (show kd 49 = 6 from rfl)
      refine xg7 F hG hq0 7 (by decide) (kw696 F.kd) (v := .ref (g 49)) rfl dX7_advise_54 ?_
      obtain ⟨M16, hc14, h⟩ := cb1_e h
      refine k_v (r_runV F hG (c_X6_become l D ca g hk12 hk13 hc14) (kd_lt hk12 (by decide)) (gd6 hk12) rfl (kw897 F.kd) (kw898 F.kd) (kw899 F.kd) (kw8 F.kd) (kw900 F.kd) yd_X6_become ⟨Nat.le_of_ble_eq_true rfl, Nat.le_of_ble_eq_true rfl⟩ rfl hl.1 rfl (Nat.le_of_ble_eq_true rfl) dX7_advise_57 ⟨Nat.le_of_ble_eq_true rfl, Nat.le_of_ble_eq_true rfl⟩) hG (fun H locs hG => ?_)
      refine lv_aload_n hx hb dX7_advise_60 rfl (lv_at hl 0 rfl) ?_
      have hk17 := (show kd 59 = 6 from rfl)
      refine xg7 F hG hq0 8 (by decide) (kw697 F.kd) (v := .ref (g 59)) rfl dX7_advise_61 ?_
      have hk18 := kt_s5 hk17
      refine xg6N F hG hk17 5 (by decide) (kw651 F.kd) (v := .ref (g (59 + 5))) rfl dX7_advise_64 ?_
      refine lv_iload_n hx hb dX7_advise_67 rfl (lv_at hl 1 rfl) ?_
      refine lv_iconst (v := 1) hx hb dX7_advise_68 (by decide) ?_
      obtain ⟨hi19, h⟩ := chk_e h
      obtain ⟨M20, eM20, h⟩ := mlet_e h
      refine r_ast F hG hk18 hi19 eM20 dX7_advise_69 (fun H locs hG => ?_)
      refine lv_aload_n hx hb dX7_advise_70 rfl (lv_at hl 0 rfl) ?_
      have hk21 := (show kd 59 = 6 from rfl)
      refine xg7 F hG hq0 8 (by decide) (kw697 F.kd) (v := .ref (g 59)) rfl dX7_advise_71 ?_
      have hk22 := kt_s6 hk21
      refine xg6N F hG hk21 6 (by decide) (kw653 F.kd) (v := .ref (g (59 + 6))) rfl dX7_advise_74 ?_
      refine lv_bipush (v := 24) hx hb dX7_advise_77 (by decide) ?_
      refine lv_iload_n hx hb dX7_advise_79 rfl (lv_at hl 1 rfl) ?_
      refine lv_imul hx hb dX7_advise_80 ?_
      refine lv_iload hx hb dX7_advise_81 (lv_at hl 4 rfl) ?_
      obtain ⟨hi23, h⟩ := chk_e h
      obtain ⟨M24, eM24, h⟩ := mlet_e h
      refine r_ast F hG hk22 hi23 eM24 dX7_advise_83 (fun H locs hG => ?_)
      refine lv_aload_n hx hb dX7_advise_84 rfl (lv_at hl 0 rfl) ?_
      have hk25 := (show kd 59 = 6 from rfl)
      refine xg7 F hG hq0 8 (by decide) (kw697 F.kd) (v := .ref (g 59)) rfl dX7_advise_85 ?_
      obtain ⟨M28, hc26, h⟩ := cb1_e h
      refine k_v (r_runV F hG (c_X6_pass l D ca g hk25 hc26) (kd_lt hk25 (by decide)) (gd6 hk25) rfl (kw857 F.kd) (kw858 F.kd) (kw859 F.kd) (kw8 F.kd) (kw860 F.kd) yd_X6_pass ⟨Nat.le_of_ble_eq_true rfl, Nat.le_of_ble_eq_true rfl⟩ rfl hl.1 rfl (Nat.le_of_ble_eq_true rfl) dX7_advise_88 ⟨Nat.le_of_ble_eq_true rfl, Nat.le_of_ble_eq_true rfl⟩) hG (fun H locs hG => ?_)
      refine lv_aload_n hx hb dX7_advise_91 rfl (lv_at hl 0 rfl) ?_
      have hk29 := (show kd 59 = 6 from rfl)
      refine xg7 F hG hq0 8 (by decide) (kw697 F.kd) (v := .ref (g 59)) rfl dX7_advise_92 ?_
      obtain ⟨M32, r31, hc30, h⟩ := cb2_e h
      refine k_i (r_runV F hG (c_X6_shuts l D ca g hk29 hc30) (kd_lt hk29 (by decide)) (gd6 hk29) rfl (kw840 F.kd) (kw841 F.kd) (kw842 F.kd) (kw8 F.kd) (kw843 F.kd) yd_X6_shuts ⟨Nat.le_of_ble_eq_true rfl, Nat.le_of_ble_eq_true rfl⟩ rfl hl.1 rfl (Nat.le_of_ble_eq_true rfl) dX7_advise_95 ⟨Nat.le_of_ble_eq_true rfl, Nat.le_of_ble_eq_true rfl⟩) hG (fun H locs hG => ?_)
      refine lv_istore (lv' := [(5, .int r31), (0, .ref (g q0)), (1, .int y1), (2, .int z2), (3, .int z3), (4, .int z4)]) hx hb dX7_advise_98 hl (by decide) rfl (fun ls hl => ?_)
      refine lv_iload hx hb dX7_advise_100 (lv_at hl 0 rfl) ?_
      refine lv_iload_n hx hb dX7_advise_102 rfl (lv_at hl 4 rfl) ?_
      refine lv_icmp_lt (tgt := 109) hx hb dX7_advise_103 (by decide) (fun c33 => ?_) (fun c33 => ?_)
      · have h := ite_t h c33
        refine lv_iload hx hb dX7_advise_109 (lv_at hl 0 rfl) ?_
        refine lv_istore_n (lv' := [(3, .int r31), (5, .int r31), (0, .ref (g q0)), (1, .int y1), (2, .int z2), (4, .int z4)]) hx hb dX7_advise_111 rfl hl (by decide) rfl (fun ls hl => ?_)
        refine lv_iload hx hb dX7_advise_112 (lv_at hl 5 rfl) ?_
        refine lv_istore_n (lv' := [(2, .int z4), (3, .int r31), (5, .int r31), (0, .ref (g q0)), (1, .int y1), (4, .int z4)]) hx hb dX7_advise_114 rfl hl (by decide) rfl (fun ls hl => ?_)
        obtain ⟨x34, ex34, h⟩ := mlet_e h
        refine lv_iinc (v := x34) (lv' := [(4, .int x34), (2, .int z4), (3, .int r31), (5, .int r31), (0, .ref (g q0)), (1, .int y1)]) hx hb dX7_advise_115 hl (k := 5) rfl (by rw [ex34]; rfl) (by decide) rfl (fun ls hl => ?_)
        refine lv_goto (tgt := 42) hx hb dX7_advise_118 (by decide) ?_
        exact ih M32 z4 r31 x34 h _ _ _ hG (lv_sub hl [4, 5, 1, 2, 0] rfl)
      · have h := ite_f h c33
        refine lv_goto (tgt := 115) hx hb dX7_advise_106 (by decide) ?_
        obtain ⟨x35, ex35, h⟩ := mlet_e h
        refine lv_iinc (v := x35) (lv' := [(4, .int x35), (5, .int r31), (0, .ref (g q0)), (1, .int y1), (2, .int z2), (3, .int z3)]) hx hb dX7_advise_115 hl (k := 5) rfl (by rw [ex35]; rfl) (by decide) rfl (fun ls hl => ?_)
        refine lv_goto (tgt := 42) hx hb dX7_advise_118 (by decide) ?_
        exact ih M32 z2 z3 x35 h _ _ _ hG (lv_sub hl [2, 3, 4, 5, 0] rfl)
set_option maxHeartbeats 4000000 in
set_option maxRecDepth 100000 in
theorem c_X7_advise (l : Launch) (D : va_G) (ca : vCA) (g : Nat → Nat) {fu : Nat} {M : Mem} {a0 : Nat} {x1 : Int32} {M' : Mem} {r : Int32} (ha0 : kd a0 = 7) (h : m_X7_advise fu M a0 x1 = some (M', r)) : cM l yX7_advise cX7_advise 6 (some .int) { frames := 6, cells := 0, slots := 0, locals := 132 } D ca g M [.ref (g a0), .int x1] (fun sz => cQi D ca g sz M' r) := by
  refine mk_Met (by decide) (Nat.le_of_ble_eq_true rfl) ?_
  intro p e s m below meth c F hr hlk hnm hG ls hl
  have hx := F.1
  have hb := F.2.1
  replace hl : lv_has ls 6 [(0, .ref (g a0)), (1, .int x1)] := hl
  unfold m_X7_advise at h
  refine lv_aload_n hx hb dX7_advise_0 rfl (lv_at hl 0 rfl) ?_
  refine lv_iconst (v := 0) hx hb dX7_advise_1 (by decide) ?_
  obtain ⟨M3, eM3, h⟩ := mlet_e h
  refine xp7 F hG ha0 eM3 rfl (by decide) (kw684 F.kd) rfl rfl rfl dX7_advise_2 (fun H locs hG => ?_)
  refine lv_aload_n hx hb dX7_advise_5 rfl (lv_at hl 0 rfl) ?_
  refine lv_iload_n hx hb dX7_advise_6 rfl (lv_at hl 1 rfl) ?_
  obtain ⟨r5, hc4, h⟩ := cb1_e h
  refine k_i (r_runV F hG (c_X7_isCrowd l D ca g ha0 hc4) (kd_lt ha0 (by decide)) (gd7 ha0) rfl (kw755 F.kd) (kw757 F.kd) (ks_X7_isCrowd F.kd) (kw7 F.kd) (kw758 F.kd) yd_X7_isCrowd ⟨Nat.le_of_ble_eq_true rfl, Nat.le_of_ble_eq_true rfl⟩ rfl hl.1 rfl (Nat.le_of_ble_eq_true rfl) dX7_advise_7 ⟨Nat.le_of_ble_eq_true rfl, Nat.le_of_ble_eq_true rfl⟩) hG (fun H locs hG => ?_)
  refine lv_if_ne (tgt := 19) hx hb dX7_advise_10 (by decide) (fun c6 => ?_) (fun c6 => ?_)
  · have h := ite_f h c6
    refine lv_aload_n hx hb dX7_advise_19 rfl (lv_at hl 0 rfl) ?_
    have hk7 := (show kd 49 = 6 from rfl)
    refine xg7 F hG ha0 7 (by decide) (kw696 F.kd) (v := .ref (g 49)) rfl dX7_advise_20 ?_
    have hk8 := kt_s3 hk7
    refine xg6N F hG hk7 3 (by decide) (kw647 F.kd) (v := .ref (g (49 + 3))) rfl dX7_advise_23 ?_
    refine lv_iload_n hx hb dX7_advise_26 rfl (lv_at hl 1 rfl) ?_
    obtain ⟨hi9, h⟩ := chk_e h
    refine r_ald F hG hk8 hi9 dX7_advise_27 ?_
    refine lv_if_ne (tgt := 33) hx hb dX7_advise_28 (by decide) (fun c10 => ?_) (fun c10 => ?_)
    · have h := ite_f h c10
      refine lv_iconst (v := (-1)) hx hb dX7_advise_33 (by decide) ?_
      refine lv_istore_n (lv' := [(2, .int (-1)), (0, .ref (g a0)), (1, .int x1)]) hx hb dX7_advise_34 rfl hl (by decide) rfl (fun ls hl => ?_)
      refine lv_sipush (v := 9999) hx hb dX7_advise_35 (by decide) ?_
      refine lv_istore_n (lv' := [(3, .int 9999), (2, .int (-1)), (0, .ref (g a0)), (1, .int x1)]) hx hb dX7_advise_38 rfl hl (by decide) rfl (fun ls hl => ?_)
      refine lv_iconst (v := 0) hx hb dX7_advise_39 (by decide) ?_
      refine lv_istore (lv' := [(4, .int 0), (3, .int 9999), (2, .int (-1)), (0, .ref (g a0)), (1, .int x1)]) hx hb dX7_advise_40 hl (by decide) rfl (fun ls hl => ?_)
      obtain ⟨o36, ho37, h⟩ := cb1_e h
      refine m_X7_advise_L42_w (out := o36) F ha0 ?_ _ _ _ _ _ ho37 _ _ _ hG (lv_sub hl [3, 4, 2, 1, 0] rfl)
      · intro M38 x39 H locs ls eo hG hl
        subst o36
        have h := up2_e h
        refine lv_iload_n hx hb dX7_advise_121 rfl (lv_at hl 0 rfl) ?_
        obtain ⟨rfl, rfl⟩ := som2 h
        exact end_i F hr hlk hG dX7_advise_122
    · have h := ite_t h c10
      refine lv_iconst (v := (-1)) hx hb dX7_advise_31 (by decide) ?_
      obtain ⟨rfl, rfl⟩ := som2 h
      exact end_i F hr hlk hG dX7_advise_32
  · have h := ite_t h c6
    refine lv_aload_n hx hb dX7_advise_13 rfl (lv_at hl 0 rfl) ?_
    refine lv_iconst (v := 1) hx hb dX7_advise_14 (by decide) ?_
    obtain ⟨M42, r41, hc40, h⟩ := cb2_e h
    refine k_i (r_runV F hG (c_X7_no l D ca g ha0 hc40) (kd_lt ha0 (by decide)) (gd7 ha0) rfl (kw731 F.kd) (kw733 F.kd) (ks_X7_no F.kd) (kw7 F.kd) (kw734 F.kd) yd_X7_no ⟨Nat.le_of_ble_eq_true rfl, Nat.le_of_ble_eq_true rfl⟩ rfl hl.1 rfl (Nat.le_of_ble_eq_true rfl) dX7_advise_15 ⟨Nat.le_of_ble_eq_true rfl, Nat.le_of_ble_eq_true rfl⟩) hG (fun H locs hG => ?_)
    obtain ⟨rfl, rfl⟩ := som2 h
    exact end_i F hr hlk hG dX7_advise_18

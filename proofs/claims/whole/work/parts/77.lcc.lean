/-! ===== the law: its calls, to the end (laid by gl.py) ===== -/
section LC
variable {p : Program} {l : Launch} {e : Env} {s : State} {m : MethodId} {args : Array Value} {below : List Frame} {meth : Method} {c : Code} {H : Heap} {locs : List Loc} {cells slots : Nat} {Q : State → Prop}
variable {ls : Array Slot} {D : va_G} {ca : vCA} {g : Nat → Nat} {M : Mem} {b L : Nat} {xs : Nat → Int32}
set_option maxHeartbeats 4000000 in
set_option maxRecDepth 100000 in
theorem lc_shuts {fu : Nat} (hfu : 2000000 < fu) (hst : l.stackTraces = false) (F : FX p m c code 9 s D ca g RL) (hsc : LSc b L xs s g) (hI : Inv M) (hG : GW D ca g s M H locs) {i : Nat} (hi : i + 5 ≤ L) (hc : cells + 10 ≤ room_1.cells) (hs : slots + 100 ≤ room_1.slots) (hl : lv_has ls 9 (lvs g b i))
    (kk : ∀ (M1 : Mem) (H1 : Heap) (locs1 : List Loc) (ls1 : Array Slot), Inv M1 → GW D ca g s M1 H1 locs1 → lv_has ls1 9 (lvs g b i) → W p l e room_1 s m args below meth c H1 locs1 (cells + 10) (slots + 100) Q (F0 m 1257 ls1 [])) : W p l e room_1 s m args below meth c H locs cells slots Q (F0 m 1009 ls []) := by
  obtain ⟨hX, hbl, hbA, hL⟩ := hsc
  have hx := F.1
  have hb := F.2.1
  replace hl : lv_has ls 9 [(0, .ref b), (1, .ref (g 40)), (2, .ref (g 44)), (3, .ref (g 69)), (4, .int (nI i))] := hl
  obtain ⟨M1, M2, r, e1, e2, hI2⟩ := call_shuts (fu := fu) (by omega) hI
  refine lv_aload_n hx hb dL_law_1009 rfl (lv_at hl 1 rfl) ?_
  refine k_i (l_runV F hG (k := 40) (c_X5_shuts l D ca g (a0 := 40) rfl e1) (mc := 0) (ms := 0) ⟨rfl, rfl⟩ (by decide) (gd5 rfl) rfl (kw153 F.kd) (kw154 F.kd) (kw155 F.kd) (kw1 F.kd) (kw156 F.kd) yd_X5_shuts ⟨Nat.le_of_ble_eq_true rfl, Nat.le_of_ble_eq_true rfl⟩ rfl hl.1 rfl (Nat.le_of_ble_eq_true rfl) dL_law_1010 ⟨hf_of (a := 0) hc (by decide), hf_of (a := 0) hs (by decide)⟩) hG (fun H locs hG => ?_)
  refine lv_aload_n hx hb dL_law_1013 rfl (lv_at hl 2 rfl) ?_
  refine k_i (l_runV F hG (k := 44) (c_X7_shuts l D ca g (a0 := 44) rfl e2) (mc := 0) (ms := 0) ⟨rfl, rfl⟩ (by decide) (gd7 rfl) rfl (kw836 F.kd) (kw837 F.kd) (kw838 F.kd) (kw7 F.kd) (kw839 F.kd) yd_X7_shuts ⟨Nat.le_of_ble_eq_true rfl, Nat.le_of_ble_eq_true rfl⟩ rfl hl.1 rfl (Nat.le_of_ble_eq_true rfl) dL_law_1014 ⟨hf_of (a := 0) hc (by decide), hf_of (a := 0) hs (by decide)⟩) hG (fun H locs hG => ?_)
  refine lv_icmp_eq (tgt := 1257) hx hb dL_law_1017 (by decide) (fun _ => ?_) (fun c1 => absurd rfl c1)
  refine W.widen (k := cells + 10) (n := slots + 100) (by omega) (by omega) ?_
  exact kk _ _ _ _ hI2 hG (lv_sub hl [0, 1, 2, 3, 4] rfl)
set_option maxHeartbeats 4000000 in
set_option maxRecDepth 100000 in
theorem lc_pass {fu : Nat} (hfu : 2000000 < fu) (hst : l.stackTraces = false) (F : FX p m c code 9 s D ca g RL) (hsc : LSc b L xs s g) (hI : Inv M) (hG : GW D ca g s M H locs) {i : Nat} (hi : i + 5 ≤ L) (hc : cells + 10 ≤ room_1.cells) (hs : slots + 100 ≤ room_1.slots) (hl : lv_has ls 9 (lvs g b i))
    (kk : ∀ (M1 : Mem) (H1 : Heap) (locs1 : List Loc) (ls1 : Array Slot), Inv M1 → GW D ca g s M1 H1 locs1 → lv_has ls1 9 (lvs g b i) → W p l e room_1 s m args below meth c H1 locs1 (cells + 10) (slots + 100) Q (F0 m 1257 ls1 [])) : W p l e room_1 s m args below meth c H locs cells slots Q (F0 m 1022 ls []) := by
  obtain ⟨hX, hbl, hbA, hL⟩ := hsc
  have hx := F.1
  have hb := F.2.1
  replace hl : lv_has ls 9 [(0, .ref b), (1, .ref (g 40)), (2, .ref (g 44)), (3, .ref (g 69)), (4, .int (nI i))] := hl
  obtain ⟨M1, k, M2, b1, e1, e2, hk, hb1, hI2⟩ := call_pass (fu := fu) (by omega) hI (xs (nI i + 1).toNatClampNeg)
  refine lv_aload_n hx hb dL_law_1022 rfl (lv_at hl 1 rfl) ?_
  refine lv_aload_n hx hb dL_law_1023 rfl (lv_at hl 0 rfl) ?_
  refine lv_iload hx hb dL_law_1024 (lv_at hl 4 rfl) ?_
  refine lv_iconst (v := 1) hx hb dL_law_1026 (by decide) ?_
  refine lv_iadd hx hb dL_law_1027 ?_
  refine va_sld hx hb hX hbl hbA hG.2 (in_at (k := 1) hL (by omega)) dL_law_1028 ?_
  refine lv_aload_n hx hb dL_law_1029 rfl (lv_at hl 3 rfl) ?_
  refine k_i (l_runSH F hG (c_L_pass l D ca g hst (a0 := 40) (a2 := 69) rfl rfl e1) (mc := 1) (ms := 6) ⟨rfl, rfl⟩ (kw535 F.kd) (kw536 F.kd) (kw0 F.kd) (kw537 F.kd) yd_L_pass ⟨Nat.le_of_ble_eq_true rfl, Nat.le_of_ble_eq_true rfl⟩ rfl hl.1 rfl (Nat.le_of_ble_eq_true rfl) dL_law_1030 ⟨hf_of (a := 1) hc (by decide), hf_of (a := 6) hs (by decide)⟩) hG (fun H locs hG => ?_)
  refine lv_istore (lv' := [(5, .int k), (0, .ref b), (1, .ref (g 40)), (2, .ref (g 44)), (3, .ref (g 69)), (4, .int (nI i))]) hx hb dL_law_1033 hl (by decide) rfl (fun ls hl => ?_)
  refine lv_aload_n hx hb dL_law_1035 rfl (lv_at hl 3 rfl) ?_
  refine lv_aload_n hx hb dL_law_1036 rfl (lv_at hl 1 rfl) ?_
  refine lv_iload hx hb dL_law_1037 (lv_at hl 5 rfl) ?_
  refine lv_iconst (v := 1) hx hb dL_law_1039 (by decide) ?_
  refine lv_iadd hx hb dL_law_1040 ?_
  refine va_sld hx hb hX hbl hbA hG.2 (in_at (k := 1) hL (by omega)) dL_law_1041 ?_
  refine k_i (l_runV F hG (k := 44) (c_X7_pass l D ca g (a0 := 44) rfl e2) (mc := 0) (ms := 0) ⟨rfl, rfl⟩ (by decide) (gd7 rfl) rfl (kw853 F.kd) (kw854 F.kd) (kw855 F.kd) (kw7 F.kd) (kw856 F.kd) yd_X7_pass ⟨Nat.le_of_ble_eq_true rfl, Nat.le_of_ble_eq_true rfl⟩ rfl hl.1 rfl (Nat.le_of_ble_eq_true rfl) dL_law_1042 ⟨hf_of (a := 1) hc (by decide), hf_of (a := 6) hs (by decide)⟩) hG (fun H locs hG => ?_)
  refine lv_istore (lv' := [(6, .int b1), (5, .int k), (0, .ref b), (1, .ref (g 40)), (2, .ref (g 44)), (3, .ref (g 69)), (4, .int (nI i))]) hx hb dL_law_1045 hl (by decide) rfl (fun ls hl => ?_)
  refine lv_aload_n hx hb dL_law_1047 rfl (lv_at hl 4 rfl) ?_
  refine k_i (l_runV F hG (k := 44) (c_X7_thrown l D ca g (a0 := 44) rfl (fu := fu) (r := M2 44 0) rfl) (mc := 0) (ms := 0) ⟨rfl, rfl⟩ (by decide) (gd7 rfl) rfl (kw717 F.kd) (kw718 F.kd) (kw719 F.kd) (kw7 F.kd) (kw720 F.kd) yd_X7_thrown ⟨Nat.le_of_ble_eq_true rfl, Nat.le_of_ble_eq_true rfl⟩ rfl hl.1 rfl (Nat.le_of_ble_eq_true rfl) dL_law_1048 ⟨hf_of (a := 1) hc (by decide), hf_of (a := 6) hs (by decide)⟩) hG (fun H locs hG => ?_)
  refine lv_iload hx hb dL_law_1051 (lv_at hl 1 rfl) ?_
  refine lv_icmp_eq (tgt := 1058) hx hb dL_law_1053 (by decide) (fun _ => ?_) (fun c1 => absurd hk c1)
  refine lv_iload hx hb dL_law_1058 (lv_at hl 1 rfl) ?_
  refine lv_if_ne (tgt := 1075) hx hb dL_law_1060 (by decide) (fun _ => ?_) (fun c2 => ?_)
  · skip
    refine lv_goto (tgt := 1257) hx hb dL_law_1075 (by decide) ?_
    refine W.widen (k := cells + 10) (n := slots + 100) (by omega) (by omega) ?_
    exact kk _ _ _ _ hI2 hG (lv_sub hl [2, 3, 4, 5, 6] rfl)
  · skip
    have hb2 := hb1 c2
    refine lv_aload_n hx hb dL_law_1063 rfl (lv_at hl 5 rfl) ?_
    refine lv_iconst (v := 0) hx hb dL_law_1064 (by decide) ?_
    refine l_lald F hG (k := 69) rfl hb2 dL_law_1065 ?_
    refine lv_iload hx hb dL_law_1066 (lv_at hl 0 rfl) ?_
    refine lv_i2l (v := (b1 : Int32).toInt64) hx hb dL_law_1068 rfl ?_
    refine W.lcmp hx hb dL_law_1069 ?_
    refine lv_if_eq (tgt := 1075) hx hb dL_law_1070 (by decide) (fun _ => ?_) (fun c4 => absurd ((lg_cmp_eq _ _).mpr rfl) c4)
    refine lv_goto (tgt := 1257) hx hb dL_law_1075 (by decide) ?_
    refine W.widen (k := cells + 10) (n := slots + 100) (by omega) (by omega) ?_
    exact kk _ _ _ _ hI2 hG (lv_sub hl [2, 3, 4, 5, 6] rfl)
set_option maxHeartbeats 4000000 in
set_option maxRecDepth 100000 in
theorem lc_foresee {fu : Nat} (hfu : 2000000 < fu) (hst : l.stackTraces = false) (F : FX p m c code 9 s D ca g RL) (hsc : LSc b L xs s g) (hI : Inv M) (hG : GW D ca g s M H locs) {i : Nat} (hi : i + 5 ≤ L) (hc : cells + 10 ≤ room_1.cells) (hs : slots + 100 ≤ room_1.slots) (hl : lv_has ls 9 (lvs g b i))
    (kk : ∀ (M1 : Mem) (H1 : Heap) (locs1 : List Loc) (ls1 : Array Slot), Inv M1 → GW D ca g s M1 H1 locs1 → lv_has ls1 9 (lvs g b i) → W p l e room_1 s m args below meth c H1 locs1 (cells + 10) (slots + 100) Q (F0 m 1257 ls1 [])) : W p l e room_1 s m args below meth c H locs cells slots Q (F0 m 1078 ls []) := by
  obtain ⟨hX, hbl, hbA, hL⟩ := hsc
  have hx := F.1
  have hb := F.2.1
  replace hl : lv_has ls 9 [(0, .ref b), (1, .ref (g 40)), (2, .ref (g 44)), (3, .ref (g 69)), (4, .int (nI i))] := hl
  obtain ⟨M1, k, M2, b1, e1, e2, hk, hb1, hI2⟩ := call_foresee (fu := fu) (by omega) hI (xs (nI i + 1).toNatClampNeg) (xs (nI i + 2).toNatClampNeg)
  refine lv_aload_n hx hb dL_law_1078 rfl (lv_at hl 1 rfl) ?_
  refine lv_aload_n hx hb dL_law_1079 rfl (lv_at hl 0 rfl) ?_
  refine lv_iload hx hb dL_law_1080 (lv_at hl 4 rfl) ?_
  refine lv_iconst (v := 1) hx hb dL_law_1082 (by decide) ?_
  refine lv_iadd hx hb dL_law_1083 ?_
  refine va_sld hx hb hX hbl hbA hG.2 (in_at (k := 1) hL (by omega)) dL_law_1084 ?_
  refine lv_aload_n hx hb dL_law_1085 rfl (lv_at hl 0 rfl) ?_
  refine lv_iload hx hb dL_law_1086 (lv_at hl 4 rfl) ?_
  refine lv_iconst (v := 2) hx hb dL_law_1088 (by decide) ?_
  refine lv_iadd hx hb dL_law_1089 ?_
  refine va_sld hx hb hX hbl hbA hG.2 (in_at (k := 2) hL (by omega)) dL_law_1090 ?_
  refine lv_aload_n hx hb dL_law_1091 rfl (lv_at hl 3 rfl) ?_
  refine k_i (l_runSH F hG (c_L_foresee l D ca g hst (a0 := 40) (a3 := 69) rfl rfl e1) (mc := 2) (ms := 12) ⟨rfl, rfl⟩ (kw592 F.kd) (kw593 F.kd) (kw0 F.kd) (kw594 F.kd) yd_L_foresee ⟨Nat.le_of_ble_eq_true rfl, Nat.le_of_ble_eq_true rfl⟩ rfl hl.1 rfl (Nat.le_of_ble_eq_true rfl) dL_law_1092 ⟨hf_of (a := 2) hc (by decide), hf_of (a := 12) hs (by decide)⟩) hG (fun H locs hG => ?_)
  refine lv_istore (lv' := [(5, .int k), (0, .ref b), (1, .ref (g 40)), (2, .ref (g 44)), (3, .ref (g 69)), (4, .int (nI i))]) hx hb dL_law_1095 hl (by decide) rfl (fun ls hl => ?_)
  refine lv_aload_n hx hb dL_law_1097 rfl (lv_at hl 3 rfl) ?_
  refine lv_aload_n hx hb dL_law_1098 rfl (lv_at hl 1 rfl) ?_
  refine lv_iload hx hb dL_law_1099 (lv_at hl 5 rfl) ?_
  refine lv_iconst (v := 1) hx hb dL_law_1101 (by decide) ?_
  refine lv_iadd hx hb dL_law_1102 ?_
  refine va_sld hx hb hX hbl hbA hG.2 (in_at (k := 1) hL (by omega)) dL_law_1103 ?_
  refine lv_aload_n hx hb dL_law_1104 rfl (lv_at hl 1 rfl) ?_
  refine lv_iload hx hb dL_law_1105 (lv_at hl 5 rfl) ?_
  refine lv_iconst (v := 2) hx hb dL_law_1107 (by decide) ?_
  refine lv_iadd hx hb dL_law_1108 ?_
  refine va_sld hx hb hX hbl hbA hG.2 (in_at (k := 2) hL (by omega)) dL_law_1109 ?_
  refine k_i (l_runV F hG (k := 44) (c_X7_foresee l D ca g (a0 := 44) rfl e2) (mc := 0) (ms := 0) ⟨rfl, rfl⟩ (by decide) (gd7 rfl) rfl (kw893 F.kd) (kw894 F.kd) (kw895 F.kd) (kw7 F.kd) (kw896 F.kd) yd_X7_foresee ⟨Nat.le_of_ble_eq_true rfl, Nat.le_of_ble_eq_true rfl⟩ rfl hl.1 rfl (Nat.le_of_ble_eq_true rfl) dL_law_1110 ⟨hf_of (a := 2) hc (by decide), hf_of (a := 12) hs (by decide)⟩) hG (fun H locs hG => ?_)
  refine lv_istore (lv' := [(6, .int b1), (5, .int k), (0, .ref b), (1, .ref (g 40)), (2, .ref (g 44)), (3, .ref (g 69)), (4, .int (nI i))]) hx hb dL_law_1113 hl (by decide) rfl (fun ls hl => ?_)
  refine lv_aload_n hx hb dL_law_1115 rfl (lv_at hl 4 rfl) ?_
  refine k_i (l_runV F hG (k := 44) (c_X7_thrown l D ca g (a0 := 44) rfl (fu := fu) (r := M2 44 0) rfl) (mc := 0) (ms := 0) ⟨rfl, rfl⟩ (by decide) (gd7 rfl) rfl (kw717 F.kd) (kw718 F.kd) (kw719 F.kd) (kw7 F.kd) (kw720 F.kd) yd_X7_thrown ⟨Nat.le_of_ble_eq_true rfl, Nat.le_of_ble_eq_true rfl⟩ rfl hl.1 rfl (Nat.le_of_ble_eq_true rfl) dL_law_1116 ⟨hf_of (a := 2) hc (by decide), hf_of (a := 12) hs (by decide)⟩) hG (fun H locs hG => ?_)
  refine lv_iload hx hb dL_law_1119 (lv_at hl 1 rfl) ?_
  refine lv_icmp_eq (tgt := 1126) hx hb dL_law_1121 (by decide) (fun _ => ?_) (fun c1 => absurd hk c1)
  refine lv_iload hx hb dL_law_1126 (lv_at hl 1 rfl) ?_
  refine lv_if_ne (tgt := 1143) hx hb dL_law_1128 (by decide) (fun _ => ?_) (fun c2 => ?_)
  · skip
    refine lv_goto (tgt := 1257) hx hb dL_law_1143 (by decide) ?_
    refine W.widen (k := cells + 10) (n := slots + 100) (by omega) (by omega) ?_
    exact kk _ _ _ _ hI2 hG (lv_sub hl [2, 3, 4, 5, 6] rfl)
  · skip
    have hb2 := hb1 c2
    refine lv_aload_n hx hb dL_law_1131 rfl (lv_at hl 5 rfl) ?_
    refine lv_iconst (v := 0) hx hb dL_law_1132 (by decide) ?_
    refine l_lald F hG (k := 69) rfl hb2 dL_law_1133 ?_
    refine lv_iload hx hb dL_law_1134 (lv_at hl 0 rfl) ?_
    refine lv_i2l (v := (b1 : Int32).toInt64) hx hb dL_law_1136 rfl ?_
    refine W.lcmp hx hb dL_law_1137 ?_
    refine lv_if_eq (tgt := 1143) hx hb dL_law_1138 (by decide) (fun _ => ?_) (fun c4 => absurd ((lg_cmp_eq _ _).mpr rfl) c4)
    refine lv_goto (tgt := 1257) hx hb dL_law_1143 (by decide) ?_
    refine W.widen (k := cells + 10) (n := slots + 100) (by omega) (by omega) ?_
    exact kk _ _ _ _ hI2 hG (lv_sub hl [2, 3, 4, 5, 6] rfl)
set_option maxHeartbeats 4000000 in
set_option maxRecDepth 100000 in
theorem lc_advise {fu : Nat} (hfu : 2000000 < fu) (hst : l.stackTraces = false) (F : FX p m c code 9 s D ca g RL) (hsc : LSc b L xs s g) (hI : Inv M) (hG : GW D ca g s M H locs) {i : Nat} (hi : i + 5 ≤ L) (hc : cells + 10 ≤ room_1.cells) (hs : slots + 100 ≤ room_1.slots) (hl : lv_has ls 9 (lvs g b i))
    (kk : ∀ (M1 : Mem) (H1 : Heap) (locs1 : List Loc) (ls1 : Array Slot), Inv M1 → GW D ca g s M1 H1 locs1 → lv_has ls1 9 (lvs g b i) → W p l e room_1 s m args below meth c H1 locs1 (cells + 10) (slots + 100) Q (F0 m 1257 ls1 [])) : W p l e room_1 s m args below meth c H locs cells slots Q (F0 m 1146 ls []) := by
  obtain ⟨hX, hbl, hbA, hL⟩ := hsc
  have hx := F.1
  have hb := F.2.1
  replace hl : lv_has ls 9 [(0, .ref b), (1, .ref (g 40)), (2, .ref (g 44)), (3, .ref (g 69)), (4, .int (nI i))] := hl
  obtain ⟨M1, k, M2, b1, e1, e2, hk, hb1, hI2⟩ := call_advise (fu := fu) (by omega) hI (xs (nI i + 1).toNatClampNeg)
  refine lv_aload_n hx hb dL_law_1146 rfl (lv_at hl 1 rfl) ?_
  refine lv_aload_n hx hb dL_law_1147 rfl (lv_at hl 0 rfl) ?_
  refine lv_iload hx hb dL_law_1148 (lv_at hl 4 rfl) ?_
  refine lv_iconst (v := 1) hx hb dL_law_1150 (by decide) ?_
  refine lv_iadd hx hb dL_law_1151 ?_
  refine va_sld hx hb hX hbl hbA hG.2 (in_at (k := 1) hL (by omega)) dL_law_1152 ?_
  refine lv_aload_n hx hb dL_law_1153 rfl (lv_at hl 3 rfl) ?_
  refine k_i (l_runSH F hG (c_L_advise l D ca g hst (a0 := 40) (a2 := 69) rfl rfl e1) (mc := 1) (ms := 6) ⟨rfl, rfl⟩ (kw617 F.kd) (kw618 F.kd) (kw0 F.kd) (kw619 F.kd) yd_L_advise ⟨Nat.le_of_ble_eq_true rfl, Nat.le_of_ble_eq_true rfl⟩ rfl hl.1 rfl (Nat.le_of_ble_eq_true rfl) dL_law_1154 ⟨hf_of (a := 1) hc (by decide), hf_of (a := 6) hs (by decide)⟩) hG (fun H locs hG => ?_)
  refine lv_istore (lv' := [(5, .int k), (0, .ref b), (1, .ref (g 40)), (2, .ref (g 44)), (3, .ref (g 69)), (4, .int (nI i))]) hx hb dL_law_1157 hl (by decide) rfl (fun ls hl => ?_)
  refine lv_aload_n hx hb dL_law_1159 rfl (lv_at hl 3 rfl) ?_
  refine lv_aload_n hx hb dL_law_1160 rfl (lv_at hl 1 rfl) ?_
  refine lv_iload hx hb dL_law_1161 (lv_at hl 5 rfl) ?_
  refine lv_iconst (v := 1) hx hb dL_law_1163 (by decide) ?_
  refine lv_iadd hx hb dL_law_1164 ?_
  refine va_sld hx hb hX hbl hbA hG.2 (in_at (k := 1) hL (by omega)) dL_law_1165 ?_
  refine k_i (l_runV F hG (k := 44) (c_X7_advise l D ca g (a0 := 44) rfl e2) (mc := 0) (ms := 0) ⟨rfl, rfl⟩ (by decide) (gd7 rfl) rfl (kw905 F.kd) (kw906 F.kd) (kw907 F.kd) (kw7 F.kd) (kw908 F.kd) yd_X7_advise ⟨Nat.le_of_ble_eq_true rfl, Nat.le_of_ble_eq_true rfl⟩ rfl hl.1 rfl (Nat.le_of_ble_eq_true rfl) dL_law_1166 ⟨hf_of (a := 1) hc (by decide), hf_of (a := 6) hs (by decide)⟩) hG (fun H locs hG => ?_)
  refine lv_istore (lv' := [(6, .int b1), (5, .int k), (0, .ref b), (1, .ref (g 40)), (2, .ref (g 44)), (3, .ref (g 69)), (4, .int (nI i))]) hx hb dL_law_1169 hl (by decide) rfl (fun ls hl => ?_)
  refine lv_aload_n hx hb dL_law_1171 rfl (lv_at hl 4 rfl) ?_
  refine k_i (l_runV F hG (k := 44) (c_X7_thrown l D ca g (a0 := 44) rfl (fu := fu) (r := M2 44 0) rfl) (mc := 0) (ms := 0) ⟨rfl, rfl⟩ (by decide) (gd7 rfl) rfl (kw717 F.kd) (kw718 F.kd) (kw719 F.kd) (kw7 F.kd) (kw720 F.kd) yd_X7_thrown ⟨Nat.le_of_ble_eq_true rfl, Nat.le_of_ble_eq_true rfl⟩ rfl hl.1 rfl (Nat.le_of_ble_eq_true rfl) dL_law_1172 ⟨hf_of (a := 1) hc (by decide), hf_of (a := 6) hs (by decide)⟩) hG (fun H locs hG => ?_)
  refine lv_iload hx hb dL_law_1175 (lv_at hl 1 rfl) ?_
  refine lv_icmp_eq (tgt := 1182) hx hb dL_law_1177 (by decide) (fun _ => ?_) (fun c1 => absurd hk c1)
  refine lv_iload hx hb dL_law_1182 (lv_at hl 1 rfl) ?_
  refine lv_if_ne (tgt := 1199) hx hb dL_law_1184 (by decide) (fun _ => ?_) (fun c2 => ?_)
  · skip
    refine lv_goto (tgt := 1257) hx hb dL_law_1199 (by decide) ?_
    refine W.widen (k := cells + 10) (n := slots + 100) (by omega) (by omega) ?_
    exact kk _ _ _ _ hI2 hG (lv_sub hl [2, 3, 4, 5, 6] rfl)
  · skip
    have hb2 := hb1 c2
    refine lv_aload_n hx hb dL_law_1187 rfl (lv_at hl 5 rfl) ?_
    refine lv_iconst (v := 0) hx hb dL_law_1188 (by decide) ?_
    refine l_lald F hG (k := 69) rfl hb2 dL_law_1189 ?_
    refine lv_iload hx hb dL_law_1190 (lv_at hl 0 rfl) ?_
    refine lv_i2l (v := (b1 : Int32).toInt64) hx hb dL_law_1192 rfl ?_
    refine W.lcmp hx hb dL_law_1193 ?_
    refine lv_if_eq (tgt := 1199) hx hb dL_law_1194 (by decide) (fun _ => ?_) (fun c4 => absurd ((lg_cmp_eq _ _).mpr rfl) c4)
    refine lv_goto (tgt := 1257) hx hb dL_law_1199 (by decide) ?_
    refine W.widen (k := cells + 10) (n := slots + 100) (by omega) (by omega) ?_
    exact kk _ _ _ _ hI2 hG (lv_sub hl [2, 3, 4, 5, 6] rfl)
set_option maxHeartbeats 4000000 in
set_option maxRecDepth 100000 in
theorem lc_mean {fu : Nat} (hfu : 2000000 < fu) (hst : l.stackTraces = false) (F : FX p m c code 9 s D ca g RL) (hsc : LSc b L xs s g) (hI : Inv M) (hG : GW D ca g s M H locs) {i : Nat} (hi : i + 5 ≤ L) (hc : cells + 10 ≤ room_1.cells) (hs : slots + 100 ≤ room_1.slots) (hl : lv_has ls 9 (lvs g b i))
    (kk : ∀ (M1 : Mem) (H1 : Heap) (locs1 : List Loc) (ls1 : Array Slot), Inv M1 → GW D ca g s M1 H1 locs1 → lv_has ls1 9 (lvs g b i) → W p l e room_1 s m args below meth c H1 locs1 (cells + 10) (slots + 100) Q (F0 m 1257 ls1 [])) : W p l e room_1 s m args below meth c H locs cells slots Q (F0 m 1202 ls []) := by
  obtain ⟨hX, hbl, hbA, hL⟩ := hsc
  have hx := F.1
  have hb := F.2.1
  replace hl : lv_has ls 9 [(0, .ref b), (1, .ref (g 40)), (2, .ref (g 44)), (3, .ref (g 69)), (4, .int (nI i))] := hl
  obtain ⟨r, e1, e2, hI2⟩ := call_mean (fu := fu) (by omega) hI
  refine lv_aload_n hx hb dL_law_1202 rfl (lv_at hl 1 rfl) ?_
  refine k_d (l_runV F hG (k := 40) (c_X5_mean l D ca g (a0 := 40) rfl e1) (mc := 0) (ms := 0) ⟨rfl, rfl⟩ (by decide) (gd5 rfl) rfl (kw198 F.kd) (kw199 F.kd) (kw200 F.kd) (kw1 F.kd) (kw201 F.kd) yd_X5_mean ⟨Nat.le_of_ble_eq_true rfl, Nat.le_of_ble_eq_true rfl⟩ rfl hl.1 rfl (Nat.le_of_ble_eq_true rfl) dL_law_1203 ⟨hf_of (a := 0) hc (by decide), hf_of (a := 0) hs (by decide)⟩) hG (fun H locs hG => ?_)
  refine lv_dstore (lv' := [(5, .double r), (0, .ref b), (1, .ref (g 40)), (2, .ref (g 44)), (3, .ref (g 69)), (4, .int (nI i))]) hx hb dL_law_1206 hl (by decide) rfl (fun ls hl => ?_)
  refine lv_aload_n hx hb dL_law_1208 rfl (lv_at hl 3 rfl) ?_
  refine k_d (l_runV F hG (k := 44) (c_X7_mean l D ca g (a0 := 44) rfl e2) (mc := 0) (ms := 0) ⟨rfl, rfl⟩ (by decide) (gd7 rfl) rfl (kw909 F.kd) (kw910 F.kd) (kw911 F.kd) (kw7 F.kd) (kw912 F.kd) yd_X7_mean ⟨Nat.le_of_ble_eq_true rfl, Nat.le_of_ble_eq_true rfl⟩ rfl hl.1 rfl (Nat.le_of_ble_eq_true rfl) dL_law_1209 ⟨hf_of (a := 0) hc (by decide), hf_of (a := 0) hs (by decide)⟩) hG (fun H locs hG => ?_)
  refine lv_dstore (lv' := [(7, .double r), (5, .double r), (0, .ref b), (1, .ref (g 40)), (2, .ref (g 44)), (3, .ref (g 69)), (4, .int (nI i))]) hx hb dL_law_1212 hl (by decide) rfl (fun ls hl => ?_)
  refine lv_dload hx hb dL_law_1214 (lv_at hl 1 rfl) ?_
  refine lv_dload hx hb dL_law_1216 (lv_at hl 0 rfl) ?_
  refine lv_dcmp hx hb dL_law_1218 ?_
  refine lv_if_eq (tgt := 1240) hx hb dL_law_1219 (by decide) (fun _ => ?_) (fun c1 => ?_)
  · skip
    refine lv_goto (tgt := 1257) hx hb dL_law_1240 (by decide) ?_
    refine W.widen (k := cells + 10) (n := slots + 100) (by omega) (by omega) ?_
    exact kk _ _ _ _ hI2 hG (lv_sub hl [2, 3, 4, 5, 6] rfl)
  · skip
    refine lv_dload hx hb dL_law_1222 (lv_at hl 1 rfl) ?_
    refine lv_dload hx hb dL_law_1224 (lv_at hl 1 rfl) ?_
    refine lv_dcmp hx hb dL_law_1226 ?_
    refine lv_if_eq (tgt := 1238) hx hb dL_law_1227 (by decide) (fun c2 => absurd c2 c1) (fun _ => ?_)
    refine lv_dload hx hb dL_law_1230 (lv_at hl 0 rfl) ?_
    refine lv_dload hx hb dL_law_1232 (lv_at hl 0 rfl) ?_
    refine lv_dcmp hx hb dL_law_1234 ?_
    refine lv_if_ne (tgt := 1240) hx hb dL_law_1235 (by decide) (fun _ => ?_) (fun c2 => absurd c2 c1)
    refine lv_goto (tgt := 1257) hx hb dL_law_1240 (by decide) ?_
    refine W.widen (k := cells + 10) (n := slots + 100) (by omega) (by omega) ?_
    exact kk _ _ _ _ hI2 hG (lv_sub hl [2, 3, 4, 5, 6] rfl)
set_option maxHeartbeats 4000000 in
set_option maxRecDepth 100000 in
theorem lc_digest {fu : Nat} (hfu : 2000000 < fu) (hst : l.stackTraces = false) (F : FX p m c code 9 s D ca g RL) (hsc : LSc b L xs s g) (hI : Inv M) (hG : GW D ca g s M H locs) {i : Nat} (hi : i + 5 ≤ L) (hc : cells + 10 ≤ room_1.cells) (hs : slots + 100 ≤ room_1.slots) (hl : lv_has ls 9 (lvs g b i))
    (kk : ∀ (M1 : Mem) (H1 : Heap) (locs1 : List Loc) (ls1 : Array Slot), Inv M1 → GW D ca g s M1 H1 locs1 → lv_has ls1 9 (lvs g b i) → W p l e room_1 s m args below meth c H1 locs1 (cells + 10) (slots + 100) Q (F0 m 1257 ls1 [])) : W p l e room_1 s m args below meth c H locs cells slots Q (F0 m 1243 ls []) := by
  obtain ⟨hX, hbl, hbA, hL⟩ := hsc
  have hx := F.1
  have hb := F.2.1
  replace hl : lv_has ls 9 [(0, .ref b), (1, .ref (g 40)), (2, .ref (g 44)), (3, .ref (g 69)), (4, .int (nI i))] := hl
  obtain ⟨r, e1, e2, hI2⟩ := call_digest (fu := fu) (by omega) hI
  refine lv_aload_n hx hb dL_law_1243 rfl (lv_at hl 1 rfl) ?_
  refine k_l (l_runV F hG (k := 40) (c_X5_digest l D ca g (a0 := 40) rfl e1) (mc := 0) (ms := 0) ⟨rfl, rfl⟩ (by decide) (gd5 rfl) rfl (kw214 F.kd) (kw215 F.kd) (kw216 F.kd) (kw1 F.kd) (kw217 F.kd) yd_X5_digest ⟨Nat.le_of_ble_eq_true rfl, Nat.le_of_ble_eq_true rfl⟩ rfl hl.1 rfl (Nat.le_of_ble_eq_true rfl) dL_law_1244 ⟨hf_of (a := 0) hc (by decide), hf_of (a := 0) hs (by decide)⟩) hG (fun H locs hG => ?_)
  refine lv_aload_n hx hb dL_law_1247 rfl (lv_at hl 2 rfl) ?_
  refine k_l (l_runV F hG (k := 44) (c_X7_digest l D ca g (a0 := 44) rfl e2) (mc := 8) (ms := 64) ⟨rfl, rfl⟩ (by decide) (gd7 rfl) rfl (kw913 F.kd) (kw914 F.kd) (kw915 F.kd) (kw7 F.kd) (kw916 F.kd) yd_X7_digest ⟨Nat.le_of_ble_eq_true rfl, Nat.le_of_ble_eq_true rfl⟩ rfl hl.1 rfl (Nat.le_of_ble_eq_true rfl) dL_law_1248 ⟨hf_of (a := 8) hc (by decide), hf_of (a := 64) hs (by decide)⟩) hG (fun H locs hG => ?_)
  refine W.lcmp hx hb dL_law_1251 ?_
  refine lv_if_eq (tgt := 1257) hx hb dL_law_1252 (by decide) (fun _ => ?_) (fun c1 => absurd ((lg_cmp_eq r r).mpr rfl) c1)
  refine W.widen (k := cells + 10) (n := slots + 100) (by omega) (by omega) ?_
  exact kk _ _ _ _ hI2 hG (lv_sub hl [0, 1, 2, 3, 4] rfl)
end LC

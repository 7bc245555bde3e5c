set_option maxHeartbeats 4000000 in
set_option maxRecDepth 100000 in
theorem c_X5_shuts (l : Launch) (D : va_G) (ca : vCA) (g : Nat → Nat) {fu : Nat} {M : Mem} {a0 : Nat} {M' : Mem} {r : Int32} (ha0 : kd a0 = 5) (h : m_X5_shuts fu M a0 = some (M', r)) : cM l yX5_shuts cX5_shuts 1 (some .int) { frames := 5, cells := 0, slots := 0, locals := 114 } D ca g M [.ref (g a0)] (fun sz => cQi D ca g sz M' r) := by
  refine mk_Met (by decide) (Nat.le_of_ble_eq_true rfl) ?_
  intro p e s m below meth c F hr hlk hnm hG ls hl
  have hx := F.1
  have hb := F.2.1
  replace hl : lv_has ls 1 [(0, .ref (g a0))] := hl
  unfold m_X5_shuts at h
  refine lv_aload_n hx hb dX5_shuts_0 rfl (lv_at hl 0 rfl) ?_
  have hk2 := (show kd 41 = 4 from rfl)
  refine xg5 F hG ha0 2 (by decide) (kw510 F.kd) (v := .ref (g 41)) rfl dX5_shuts_1 ?_
  refine lv_aload_n hx hb dX5_shuts_4 rfl (lv_at hl 0 rfl) ?_
  have hk3 := (show kd 0 = 1 from rfl)
  refine xg5 F hG ha0 0 (by decide) (kw508 F.kd) (v := .ref (g 0)) rfl dX5_shuts_5 ?_
  have hk4 := kt_quarter hk3
  refine xg1N F hG hk3 0 (by decide) (kw467 F.kd) (v := .ref (g (0 + 1))) rfl dX5_shuts_8 ?_
  obtain ⟨M7, r6, hc5, h⟩ := cb2_e h
  refine k_i (r_runVN F hG (c_X4_fewestToShut l D ca g hk2 hk4 hc5) (kd_lt hk2 (by decide)) (gd4 hk2) rfl (kw223 F.kd) (kw225 F.kd) (ks_X4_fewestToShut F.kd) (kw6 F.kd) (kw226 F.kd) yd_X4_fewestToShut ⟨Nat.le_of_ble_eq_true rfl, Nat.le_of_ble_eq_true rfl⟩ rfl hl.1 rfl (Nat.le_of_ble_eq_true rfl) dX5_shuts_11 ⟨Nat.le_of_ble_eq_true rfl, Nat.le_of_ble_eq_true rfl⟩) hG (fun H locs hG => ?_)
  obtain ⟨rfl, rfl⟩ := som2 h
  exact end_i F hr hlk hG dX5_shuts_14
set_option maxHeartbeats 4000000 in
set_option maxRecDepth 100000 in
theorem c_X5_shutsBehind (l : Launch) (D : va_G) (ca : vCA) (g : Nat → Nat) {fu : Nat} {M : Mem} {a0 : Nat} {x1 : Int32} {x2 : Int32} {M' : Mem} {r : Int32} (ha0 : kd a0 = 5) (h : m_X5_shutsBehind fu M a0 x1 x2 = some (M', r)) : cM l yX5_shutsBehind cX5_shutsBehind 3 (some .int) { frames := 5, cells := 0, slots := 0, locals := 118 } D ca g M [.ref (g a0), .int x1, .int x2] (fun sz => cQi D ca g sz M' r) := by
  refine mk_Met (by decide) (Nat.le_of_ble_eq_true rfl) ?_
  intro p e s m below meth c F hr hlk hnm hG ls hl
  have hx := F.1
  have hb := F.2.1
  replace hl : lv_has ls 3 [(0, .ref (g a0)), (1, .int x1), (2, .int x2)] := hl
  unfold m_X5_shutsBehind at h
  refine lv_aload_n hx hb dX5_shutsBehind_0 rfl (lv_at hl 0 rfl) ?_
  have hk4 := (show kd 20 = 1 from rfl)
  refine xg5 F hG ha0 1 (by decide) (kw509 F.kd) (v := .ref (g 20)) rfl dX5_shutsBehind_1 ?_
  refine lv_aload_n hx hb dX5_shutsBehind_4 rfl (lv_at hl 0 rfl) ?_
  have hk5 := (show kd 0 = 1 from rfl)
  refine xg5 F hG ha0 0 (by decide) (kw508 F.kd) (v := .ref (g 0)) rfl dX5_shutsBehind_5 ?_
  obtain ⟨M8, hc6, h⟩ := cb1_e h
  refine k_v (r_runVN F hG (c_X1_become l D ca g hk4 hk5 hc6) (kd_lt hk4 (by decide)) (gd1 hk4) rfl (kw323 F.kd) (kw325 F.kd) (ks_X1_become F.kd) (kw2 F.kd) (kw326 F.kd) yd_X1_become ⟨Nat.le_of_ble_eq_true rfl, Nat.le_of_ble_eq_true rfl⟩ rfl hl.1 rfl (Nat.le_of_ble_eq_true rfl) dX5_shutsBehind_8 ⟨Nat.le_of_ble_eq_true rfl, Nat.le_of_ble_eq_true rfl⟩) hG (fun H locs hG => ?_)
  refine lv_aload_n hx hb dX5_shutsBehind_11 rfl (lv_at hl 0 rfl) ?_
  have hk9 := (show kd 20 = 1 from rfl)
  refine xg5 F hG ha0 1 (by decide) (kw509 F.kd) (v := .ref (g 20)) rfl dX5_shutsBehind_12 ?_
  have hk10 := kt_crowds hk9
  refine xg1N F hG hk9 1 (by decide) (kw469 F.kd) (v := .ref (g (20 + 3))) rfl dX5_shutsBehind_15 ?_
  refine lv_iload_n hx hb dX5_shutsBehind_18 rfl (lv_at hl 1 rfl) ?_
  obtain ⟨hi11, h⟩ := chk_e h
  have hk12 := kt_elC hk10 hi11
  refine r_aldC F hG hk10 hi11 dX5_shutsBehind_19 ?_
  refine lv_iconst (v := 0) hx hb dX5_shutsBehind_20 (by decide) ?_
  obtain ⟨M13, eM13, h⟩ := mlet_e h
  refine xp0N F hG hk12 eM13 rfl (by decide) (kw427 F.kd) rfl rfl rfl dX5_shutsBehind_21 (fun H locs hG => ?_)
  refine lv_aload_n hx hb dX5_shutsBehind_24 rfl (lv_at hl 0 rfl) ?_
  have hk14 := (show kd 20 = 1 from rfl)
  refine xg5 F hG ha0 1 (by decide) (kw509 F.kd) (v := .ref (g 20)) rfl dX5_shutsBehind_25 ?_
  have hk15 := kt_crowds hk14
  refine xg1N F hG hk14 1 (by decide) (kw469 F.kd) (v := .ref (g (20 + 3))) rfl dX5_shutsBehind_28 ?_
  refine lv_iload_n hx hb dX5_shutsBehind_31 rfl (lv_at hl 1 rfl) ?_
  obtain ⟨hi16, h⟩ := chk_e h
  have hk17 := kt_elC hk15 hi16
  refine r_aldC F hG hk15 hi16 dX5_shutsBehind_32 ?_
  refine lv_iload_n hx hb dX5_shutsBehind_33 rfl (lv_at hl 2 rfl) ?_
  obtain ⟨M20, hc18, h⟩ := cb1_e h
  refine k_v (r_runVN F hG (c_X0_addOrder l D ca g hk17 hc18) (kd_lt hk17 (by decide)) (gd0 hk17) rfl (kw350 F.kd) (kw352 F.kd) (ks_X0_addOrder F.kd) (kw4 F.kd) (kw353 F.kd) yd_X0_addOrder ⟨Nat.le_of_ble_eq_true rfl, Nat.le_of_ble_eq_true rfl⟩ rfl hl.1 rfl (Nat.le_of_ble_eq_true rfl) dX5_shutsBehind_34 ⟨Nat.le_of_ble_eq_true rfl, Nat.le_of_ble_eq_true rfl⟩) hG (fun H locs hG => ?_)
  refine lv_aload_n hx hb dX5_shutsBehind_37 rfl (lv_at hl 0 rfl) ?_
  have hk21 := (show kd 20 = 1 from rfl)
  refine xg5 F hG ha0 1 (by decide) (kw509 F.kd) (v := .ref (g 20)) rfl dX5_shutsBehind_38 ?_
  refine lv_iconst (v := 1) hx hb dX5_shutsBehind_41 (by decide) ?_
  obtain ⟨M24, hc22, h⟩ := cb1_e h
  refine k_v (r_runVN F hG (c_X1_goOn l D ca g hk21 hc22) (kd_lt hk21 (by decide)) (gd1 hk21) rfl (kw267 F.kd) (kw269 F.kd) (ks_X1_goOn F.kd) (kw2 F.kd) (kw270 F.kd) yd_X1_goOn ⟨Nat.le_of_ble_eq_true rfl, Nat.le_of_ble_eq_true rfl⟩ rfl hl.1 rfl (Nat.le_of_ble_eq_true rfl) dX5_shutsBehind_42 ⟨Nat.le_of_ble_eq_true rfl, Nat.le_of_ble_eq_true rfl⟩) hG (fun H locs hG => ?_)
  refine lv_aload_n hx hb dX5_shutsBehind_45 rfl (lv_at hl 0 rfl) ?_
  have hk25 := (show kd 41 = 4 from rfl)
  refine xg5 F hG ha0 2 (by decide) (kw510 F.kd) (v := .ref (g 41)) rfl dX5_shutsBehind_46 ?_
  refine lv_aload_n hx hb dX5_shutsBehind_49 rfl (lv_at hl 0 rfl) ?_
  have hk26 := (show kd 20 = 1 from rfl)
  refine xg5 F hG ha0 1 (by decide) (kw509 F.kd) (v := .ref (g 20)) rfl dX5_shutsBehind_50 ?_
  have hk27 := kt_quarter hk26
  refine xg1N F hG hk26 0 (by decide) (kw467 F.kd) (v := .ref (g (20 + 1))) rfl dX5_shutsBehind_53 ?_
  obtain ⟨M30, r29, hc28, h⟩ := cb2_e h
  refine k_i (r_runVN F hG (c_X4_fewestToShut l D ca g hk25 hk27 hc28) (kd_lt hk25 (by decide)) (gd4 hk25) rfl (kw223 F.kd) (kw225 F.kd) (ks_X4_fewestToShut F.kd) (kw6 F.kd) (kw226 F.kd) yd_X4_fewestToShut ⟨Nat.le_of_ble_eq_true rfl, Nat.le_of_ble_eq_true rfl⟩ rfl hl.1 rfl (Nat.le_of_ble_eq_true rfl) dX5_shutsBehind_56 ⟨Nat.le_of_ble_eq_true rfl, Nat.le_of_ble_eq_true rfl⟩) hG (fun H locs hG => ?_)
  obtain ⟨rfl, rfl⟩ := som2 h
  exact end_i F hr hlk hG dX5_shutsBehind_59
set_option maxHeartbeats 4000000 in
set_option maxRecDepth 100000 in
theorem m_X5_digest_L6_w {p : Program} {l : Launch} {e : Env} {s : State} {m : MethodId} {args : Array Value} {below : List Frame} {meth : Method} {c : Code} {Q : State → Prop} {D : va_G} {ca : vCA} {g : Nat → Nat} {fu : Nat} {M : Mem} {q0 : Nat} {out : Int64} (F : FX p m c cX5_digest 4 s D ca g RX5) (hq0 : kd q0 = 5)
    (K0 : ∀ (u1 : Int64) (H : Heap) (locs : List Loc) (ls : Array Slot), out = u1 → GW D ca g s M H locs → lv_has ls 4 [(0, .ref (g q0)), (1, .long u1)] → W p l e ({ frames := 5, cells := 0, slots := 0, locals := 121 }) s m args below meth c H locs 0 0 Q (F0 m 34 ls [])) :
    ∀ (n : Nat) (z1 : Int64) (z3 : Int32), m_X5_digest_L6 fu M q0 n z1 z3 = some out → ∀ (H : Heap) (locs : List Loc) (ls : Array Slot), GW D ca g s M H locs → lv_has ls 4 [(0, .ref (g q0)), (1, .long z1), (3, .int z3)] → W p l e ({ frames := 5, cells := 0, slots := 0, locals := 121 }) s m args below meth c H locs 0 0 Q (F0 m 6 ls []) := by
  have hx := F.1
  have hb := F.2.1
  intro n
  induction n with
  | zero =>
    intro z1 z3 h
    exact absurd h (by simp [m_X5_digest_L6])
  | succ n ih =>
    intro z1 z3 h H locs ls hG hl
    rw [m_X5_digest_L6] at h
    refine lv_iload_n hx hb dX5_digest_6 rfl (lv_at hl 2 rfl) ?_
    refine lv_bipush (v := 8) hx hb dX5_digest_7 (by decide) ?_
    refine lv_icmp_ge (tgt := 34) hx hb dX5_digest_9 (by decide) (fun c2 => ?_) (fun c2 => ?_)
    · have h := ite_t h c2
      exact K0 _ _ _ _ (som1 h).symm hG (lv_sub hl [0, 1] rfl)
    · have h := ite_f h c2
      refine lv_lload_n hx hb dX5_digest_12 rfl (lv_at hl 1 rfl) ?_
      refine lv_ldc2 (v := 31) hx hb F.2.2.2.1 (kw359 F.kd) dX5_digest_13 ?_
      refine lv_lmul hx hb dX5_digest_16 ?_
      refine lv_aload_n hx hb dX5_digest_17 rfl (lv_at hl 0 rfl) ?_
      have hk3 := (show kd 0 = 1 from rfl)
      refine xg5 F hG hq0 0 (by decide) (kw508 F.kd) (v := .ref (g 0)) rfl dX5_digest_18 ?_
      refine lv_iload_n hx hb dX5_digest_21 rfl (lv_at hl 2 rfl) ?_
      obtain ⟨r5, hc4, h⟩ := cb1_e h
      refine k_i (r_runVN F hG (c_X1_total l D ca g hk3 hc4) (kd_lt hk3 (by decide)) (gd1 hk3) rfl (kw167 F.kd) (kw169 F.kd) (ks_X1_total F.kd) (kw2 F.kd) (kw170 F.kd) yd_X1_total ⟨Nat.le_of_ble_eq_true rfl, Nat.le_of_ble_eq_true rfl⟩ rfl hl.1 rfl (Nat.le_of_ble_eq_true rfl) dX5_digest_22 ⟨Nat.le_of_ble_eq_true rfl, Nat.le_of_ble_eq_true rfl⟩) hG (fun H locs hG => ?_)
      refine lv_i2l (v := (r5 : Int32).toInt64) hx hb dX5_digest_25 rfl ?_
      refine lv_ladd hx hb dX5_digest_26 ?_
      refine lv_topl (fun x6 ex6 => ?_)
      have h := mlet_n h ex6
      refine lv_lstore_n (lv' := [(1, .long x6), (0, .ref (g q0)), (3, .int z3)]) hx hb dX5_digest_27 rfl hl (by decide) rfl (fun ls hl => ?_)
      obtain ⟨x7, ex7, h⟩ := mlet_e h
      refine lv_iinc (v := x7) (lv' := [(3, .int x7), (1, .long x6), (0, .ref (g q0))]) hx hb dX5_digest_28 hl (k := 2) rfl (by rw [ex7]; rfl) (by decide) rfl (fun ls hl => ?_)
      refine lv_goto (tgt := 6) hx hb dX5_digest_31 (by decide) ?_
      exact ih x6 x7 h _ _ _ hG (lv_sub hl [2, 1, 0] rfl)
set_option maxHeartbeats 4000000 in
set_option maxRecDepth 100000 in
theorem m_X5_digest_L48_w {p : Program} {l : Launch} {e : Env} {s : State} {m : MethodId} {args : Array Value} {below : List Frame} {meth : Method} {c : Code} {Q : State → Prop} {D : va_G} {ca : vCA} {g : Nat → Nat} {fu : Nat} {M : Mem} {q0 : Nat} {out : Int64} (F : FX p m c cX5_digest 4 s D ca g RX5) (hq0 : kd q0 = 5)
    (K0 : ∀ (u1 : Int64) (H : Heap) (locs : List Loc) (ls : Array Slot), out = u1 → GW D ca g s M H locs → lv_has ls 4 [(0, .ref (g q0)), (1, .long u1)] → W p l e ({ frames := 5, cells := 0, slots := 0, locals := 121 }) s m args below meth c H locs 0 0 Q (F0 m 83 ls [])) :
    ∀ (n : Nat) (z1 : Int64) (z3 : Int32), m_X5_digest_L48 fu M q0 n z1 z3 = some out → ∀ (H : Heap) (locs : List Loc) (ls : Array Slot), GW D ca g s M H locs → lv_has ls 4 [(0, .ref (g q0)), (1, .long z1), (3, .int z3)] → W p l e ({ frames := 5, cells := 0, slots := 0, locals := 121 }) s m args below meth c H locs 0 0 Q (F0 m 48 ls []) := by
  have hx := F.1
  have hb := F.2.1
  intro n
  induction n with
  | zero =>
    intro z1 z3 h
    exact absurd h (by simp [m_X5_digest_L48])
  | succ n ih =>
    intro z1 z3 h H locs ls hG hl
    rw [m_X5_digest_L48] at h
    refine lv_iload_n hx hb dX5_digest_48 rfl (lv_at hl 2 rfl) ?_
    refine lv_aload_n hx hb dX5_digest_49 rfl (lv_at hl 0 rfl) ?_
    have hk15 := (show kd 0 = 1 from rfl)
    refine xg5 F hG hq0 0 (by decide) (kw508 F.kd) (v := .ref (g 0)) rfl dX5_digest_50 ?_
    refine xg1N F hG hk15 2 (by decide) (kw471 F.kd) (v := .int (M 0 2)) rfl dX5_digest_53 ?_
    refine lv_icmp_ge (tgt := 83) hx hb dX5_digest_56 (by decide) (fun c16 => ?_) (fun c16 => ?_)
    · have h := ite_t h c16
      exact K0 _ _ _ _ (som1 h).symm hG (lv_sub hl [0, 1] rfl)
    · have h := ite_f h c16
      refine lv_aload_n hx hb dX5_digest_59 rfl (lv_at hl 0 rfl) ?_
      have hk17 := (show kd 0 = 1 from rfl)
      refine xg5 F hG hq0 0 (by decide) (kw508 F.kd) (v := .ref (g 0)) rfl dX5_digest_60 ?_
      refine lv_lload_n hx hb dX5_digest_63 rfl (lv_at hl 1 rfl) ?_
      refine lv_aload_n hx hb dX5_digest_64 rfl (lv_at hl 0 rfl) ?_
      have hk18 := (show kd 0 = 1 from rfl)
      refine xg5 F hG hq0 0 (by decide) (kw508 F.kd) (v := .ref (g 0)) rfl dX5_digest_65 ?_
      have hk19 := kt_crowds hk18
      refine xg1N F hG hk18 1 (by decide) (kw469 F.kd) (v := .ref (g (0 + 3))) rfl dX5_digest_68 ?_
      refine lv_iload_n hx hb dX5_digest_71 rfl (lv_at hl 2 rfl) ?_
      obtain ⟨hi20, h⟩ := chk_e h
      have hk21 := kt_elC hk19 hi20
      refine r_aldC F hG hk19 hi20 dX5_digest_72 ?_
      obtain ⟨r23, hc22, h⟩ := cb1_e h
      refine k_l (r_runVN F hG (c_X1_addCrowdTo l D ca g hk17 hk21 hc22) (kd_lt hk17 (by decide)) (gd1 hk17) rfl (kw365 F.kd) (kw367 F.kd) (ks_X1_addCrowdTo F.kd) (kw2 F.kd) (kw368 F.kd) yd_X1_addCrowdTo ⟨Nat.le_of_ble_eq_true rfl, Nat.le_of_ble_eq_true rfl⟩ rfl hl.1 rfl (Nat.le_of_ble_eq_true rfl) dX5_digest_73 ⟨Nat.le_of_ble_eq_true rfl, Nat.le_of_ble_eq_true rfl⟩) hG (fun H locs hG => ?_)
      refine lv_lstore_n (lv' := [(1, .long r23), (0, .ref (g q0)), (3, .int z3)]) hx hb dX5_digest_76 rfl hl (by decide) rfl (fun ls hl => ?_)
      obtain ⟨x24, ex24, h⟩ := mlet_e h
      refine lv_iinc (v := x24) (lv' := [(3, .int x24), (1, .long r23), (0, .ref (g q0))]) hx hb dX5_digest_77 hl (k := 2) rfl (by rw [ex24]; rfl) (by decide) rfl (fun ls hl => ?_)
      refine lv_goto (tgt := 48) hx hb dX5_digest_80 (by decide) ?_
      exact ih r23 x24 h _ _ _ hG (lv_sub hl [2, 1, 0] rfl)
set_option maxHeartbeats 4000000 in
set_option maxRecDepth 100000 in
theorem m_X5_digest_L85_w {p : Program} {l : Launch} {e : Env} {s : State} {m : MethodId} {args : Array Value} {below : List Frame} {meth : Method} {c : Code} {Q : State → Prop} {D : va_G} {ca : vCA} {g : Nat → Nat} {fu : Nat} {M : Mem} {q0 : Nat} {out : Int64} (F : FX p m c cX5_digest 4 s D ca g RX5) (hq0 : kd q0 = 5)
    (K0 : ∀ (u1 : Int64) (H : Heap) (locs : List Loc) (ls : Array Slot), out = u1 → GW D ca g s M H locs → lv_has ls 4 [(1, .long u1)] → W p l e ({ frames := 5, cells := 0, slots := 0, locals := 121 }) s m args below meth c H locs 0 0 Q (F0 m 120 ls [])) :
    ∀ (n : Nat) (z1 : Int64) (z3 : Int32), m_X5_digest_L85 fu M q0 n z1 z3 = some out → ∀ (H : Heap) (locs : List Loc) (ls : Array Slot), GW D ca g s M H locs → lv_has ls 4 [(0, .ref (g q0)), (1, .long z1), (3, .int z3)] → W p l e ({ frames := 5, cells := 0, slots := 0, locals := 121 }) s m args below meth c H locs 0 0 Q (F0 m 85 ls []) := by
  have hx := F.1
  have hb := F.2.1
  intro n
  induction n with
  | zero =>
    intro z1 z3 h
    exact absurd h (by simp [m_X5_digest_L85])
  | succ n ih =>
    intro z1 z3 h H locs ls hG hl
    rw [m_X5_digest_L85] at h
    refine lv_iload_n hx hb dX5_digest_85 rfl (lv_at hl 2 rfl) ?_
    refine lv_aload_n hx hb dX5_digest_86 rfl (lv_at hl 0 rfl) ?_
    have hk28 := (show kd 0 = 1 from rfl)
    refine xg5 F hG hq0 0 (by decide) (kw508 F.kd) (v := .ref (g 0)) rfl dX5_digest_87 ?_
    refine xg1N F hG hk28 4 (by decide) (kw475 F.kd) (v := .int (M 0 4)) rfl dX5_digest_90 ?_
    refine lv_icmp_ge (tgt := 120) hx hb dX5_digest_93 (by decide) (fun c29 => ?_) (fun c29 => ?_)
    · have h := ite_t h c29
      exact K0 _ _ _ _ (som1 h).symm hG (lv_sub hl [1] rfl)
    · have h := ite_f h c29
      refine lv_aload_n hx hb dX5_digest_96 rfl (lv_at hl 0 rfl) ?_
      have hk30 := (show kd 0 = 1 from rfl)
      refine xg5 F hG hq0 0 (by decide) (kw508 F.kd) (v := .ref (g 0)) rfl dX5_digest_97 ?_
      refine lv_lload_n hx hb dX5_digest_100 rfl (lv_at hl 1 rfl) ?_
      refine lv_aload_n hx hb dX5_digest_101 rfl (lv_at hl 0 rfl) ?_
      have hk31 := (show kd 0 = 1 from rfl)
      refine xg5 F hG hq0 0 (by decide) (kw508 F.kd) (v := .ref (g 0)) rfl dX5_digest_102 ?_
      have hk32 := kt_patrols hk31
      refine xg1N F hG hk31 3 (by decide) (kw473 F.kd) (v := .ref (g (0 + 4))) rfl dX5_digest_105 ?_
      refine lv_iload_n hx hb dX5_digest_108 rfl (lv_at hl 2 rfl) ?_
      obtain ⟨hi33, h⟩ := chk_e h
      have hk34 := kt_elP hk32 hi33
      refine r_aldP F hG hk32 hi33 dX5_digest_109 ?_
      obtain ⟨r36, hc35, h⟩ := cb1_e h
      refine k_l (r_runVN F hG (c_X1_addPatrolTo l D ca g hk30 hk34 hc35) (kd_lt hk30 (by decide)) (gd1 hk30) rfl (kw376 F.kd) (kw378 F.kd) (ks_X1_addPatrolTo F.kd) (kw2 F.kd) (kw379 F.kd) yd_X1_addPatrolTo ⟨Nat.le_of_ble_eq_true rfl, Nat.le_of_ble_eq_true rfl⟩ rfl hl.1 rfl (Nat.le_of_ble_eq_true rfl) dX5_digest_110 ⟨Nat.le_of_ble_eq_true rfl, Nat.le_of_ble_eq_true rfl⟩) hG (fun H locs hG => ?_)
      refine lv_lstore_n (lv' := [(1, .long r36), (0, .ref (g q0)), (3, .int z3)]) hx hb dX5_digest_113 rfl hl (by decide) rfl (fun ls hl => ?_)
      obtain ⟨x37, ex37, h⟩ := mlet_e h
      refine lv_iinc (v := x37) (lv' := [(3, .int x37), (1, .long r36), (0, .ref (g q0))]) hx hb dX5_digest_114 hl (k := 2) rfl (by rw [ex37]; rfl) (by decide) rfl (fun ls hl => ?_)
      refine lv_goto (tgt := 85) hx hb dX5_digest_117 (by decide) ?_
      exact ih r36 x37 h _ _ _ hG (lv_sub hl [2, 1, 0] rfl)
set_option maxHeartbeats 4000000 in
set_option maxRecDepth 100000 in
theorem c_X5_digest (l : Launch) (D : va_G) (ca : vCA) (g : Nat → Nat) {fu : Nat} {M : Mem} {a0 : Nat} {r : Int64} (ha0 : kd a0 = 5) (h : m_X5_digest fu M a0 = some r) : cM l yX5_digest cX5_digest 4 (some .long) { frames := 5, cells := 0, slots := 0, locals := 121 } D ca g M [.ref (g a0)] (fun sz => cQl D ca g sz M r) := by
  refine mk_Met (by decide) (Nat.le_of_ble_eq_true rfl) ?_
  intro p e s m below meth c F hr hlk hnm hG ls hl
  have hx := F.1
  have hb := F.2.1
  replace hl : lv_has ls 4 [(0, .ref (g a0))] := hl
  unfold m_X5_digest at h
  refine lv_ldc2 (v := 997) hx hb F.2.2.2.1 (kw358 F.kd) dX5_digest_0 ?_
  refine lv_lstore_n (lv' := [(1, .long 997), (0, .ref (g a0))]) hx hb dX5_digest_3 rfl hl (by decide) rfl (fun ls hl => ?_)
  refine lv_iconst (v := 0) hx hb dX5_digest_4 (by decide) ?_
  refine lv_istore_n (lv' := [(3, .int 0), (1, .long 997), (0, .ref (g a0))]) hx hb dX5_digest_5 rfl hl (by decide) rfl (fun ls hl => ?_)
  obtain ⟨o8, ho9, h⟩ := cb1_e h
  refine m_X5_digest_L6_w (out := o8) F ha0 ?_ _ _ _ ho9 _ _ _ hG (lv_sub hl [2, 1, 0] rfl)
  · intro x10 H locs ls eo hG hl
    subst o8
    refine lv_aload_n hx hb dX5_digest_34 rfl (lv_at hl 0 rfl) ?_
    have hk11 := (show kd 0 = 1 from rfl)
    refine xg5 F hG ha0 0 (by decide) (kw508 F.kd) (v := .ref (g 0)) rfl dX5_digest_35 ?_
    have hk12 := kt_quarter hk11
    refine xg1N F hG hk11 0 (by decide) (kw467 F.kd) (v := .ref (g (0 + 1))) rfl dX5_digest_38 ?_
    refine lv_lload_n hx hb dX5_digest_41 rfl (lv_at hl 1 rfl) ?_
    obtain ⟨r14, hc13, h⟩ := cb1_e h
    refine k_l (r_runVN F hG (c_X3_addCellsTo l D ca g hk12 hc13) (kd_lt hk12 (by decide)) (gd3 hk12) rfl (kw360 F.kd) (kw362 F.kd) (ks_X3_addCellsTo F.kd) (kw3 F.kd) (kw363 F.kd) yd_X3_addCellsTo ⟨Nat.le_of_ble_eq_true rfl, Nat.le_of_ble_eq_true rfl⟩ rfl hl.1 rfl (Nat.le_of_ble_eq_true rfl) dX5_digest_42 ⟨Nat.le_of_ble_eq_true rfl, Nat.le_of_ble_eq_true rfl⟩) hG (fun H locs hG => ?_)
    refine lv_lstore_n (lv' := [(1, .long r14), (0, .ref (g a0))]) hx hb dX5_digest_45 rfl hl (by decide) rfl (fun ls hl => ?_)
    refine lv_iconst (v := 0) hx hb dX5_digest_46 (by decide) ?_
    refine lv_istore_n (lv' := [(3, .int 0), (1, .long r14), (0, .ref (g a0))]) hx hb dX5_digest_47 rfl hl (by decide) rfl (fun ls hl => ?_)
    obtain ⟨o25, ho26, h⟩ := cb1_e h
    refine m_X5_digest_L48_w (out := o25) F ha0 ?_ _ _ _ ho26 _ _ _ hG (lv_sub hl [2, 1, 0] rfl)
    · intro x27 H locs ls eo hG hl
      subst o25
      refine lv_iconst (v := 0) hx hb dX5_digest_83 (by decide) ?_
      refine lv_istore_n (lv' := [(3, .int 0), (0, .ref (g a0)), (1, .long x27)]) hx hb dX5_digest_84 rfl hl (by decide) rfl (fun ls hl => ?_)
      obtain ⟨o38, ho39, h⟩ := cb1_e h
      refine m_X5_digest_L85_w (out := o38) F ha0 ?_ _ _ _ ho39 _ _ _ hG (lv_sub hl [1, 2, 0] rfl)
      · intro x40 H locs ls eo hG hl
        subst o38
        refine lv_lload_n hx hb dX5_digest_120 rfl (lv_at hl 0 rfl) ?_
        obtain rfl := som1 h
        exact end_l F hr hlk hG dX5_digest_121

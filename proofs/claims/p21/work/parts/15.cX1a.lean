set_option maxHeartbeats 4000000 in
set_option maxRecDepth 100000 in
theorem c_X1_addCrowd (l : Launch) (D : va_G) (ca : vCA) (g : Nat → Nat) {fu : Nat} {M : Mem} {a0 : Nat} {x1 : Int32} {x2 : Int32} {M' : Mem} {r : Int32} (ha0 : kd a0 = 1) (h : m_X1_addCrowd fu M a0 x1 x2 = some (M', r)) : cM l yX1_addCrowd cX1_addCrowd 4 (some .int) { frames := 0, cells := 0, slots := 0, locals := 0 } D ca g M [.ref (g a0), .int x1, .int x2] (fun sz => cQi D ca g sz M' r) := by
  refine mk_Met (by decide) (Nat.le_of_ble_eq_true rfl) ?_
  intro p e s m below meth c F hr hlk hnm hG ls hl
  have hx := F.1
  have hb := F.2.1
  replace hl : lv_has ls 4 [(0, .ref (g a0)), (1, .int x1), (2, .int x2)] := hl
  unfold m_X1_addCrowd at h
  refine lv_aload_n hx hb dX1_addCrowd_0 rfl (lv_at hl 0 rfl) ?_
  refine xg1 F hG ha0 2 (by decide) (kw470 F.kd) (v := .int (M a0 2)) rfl dX1_addCrowd_1 ?_
  refine lv_topi (fun x4 ex4 => ?_)
  have h := mlet_n h ex4
  refine lv_istore_n (lv' := [(3, .int x4), (0, .ref (g a0)), (1, .int x1), (2, .int x2)]) hx hb dX1_addCrowd_4 rfl hl (by decide) rfl (fun ls hl => ?_)
  refine lv_iload_n hx hb dX1_addCrowd_5 rfl (lv_at hl 0 rfl) ?_
  refine lv_bipush (v := 6) hx hb dX1_addCrowd_6 (by decide) ?_
  refine lv_icmp_ge (tgt := 51) hx hb dX1_addCrowd_8 (by decide) (fun c5 => ?_) (fun c5 => ?_)
  · have h := ite_t h c5
    refine lv_iload_n hx hb dX1_addCrowd_51 rfl (lv_at hl 0 rfl) ?_
    obtain ⟨rfl, rfl⟩ := som2 h
    exact end_i F hr hlk hG dX1_addCrowd_52
  · have h := ite_f h c5
    refine lv_aload_n hx hb dX1_addCrowd_11 rfl (lv_at hl 1 rfl) ?_
    have hk6 := kt_crowds ha0
    refine xg1 F hG ha0 1 (by decide) (kw468 F.kd) (v := .ref (g (a0 + 3))) rfl dX1_addCrowd_12 ?_
    refine lv_iload_n hx hb dX1_addCrowd_15 rfl (lv_at hl 0 rfl) ?_
    obtain ⟨hi7, h⟩ := chk_e h
    have hk8 := kt_elC hk6 hi7
    refine r_aldC F hG hk6 hi7 dX1_addCrowd_16 ?_
    refine lv_iload_n hx hb dX1_addCrowd_17 rfl (lv_at hl 2 rfl) ?_
    obtain ⟨M9, eM9, h⟩ := mlet_e h
    refine xp0N F hG hk8 eM9 rfl (by decide) (kw418 F.kd) rfl rfl rfl dX1_addCrowd_18 (fun H locs hG => ?_)
    refine lv_aload_n hx hb dX1_addCrowd_21 rfl (lv_at hl 1 rfl) ?_
    have hk10 := kt_crowds ha0
    refine xg1 F hG ha0 1 (by decide) (kw468 F.kd) (v := .ref (g (a0 + 3))) rfl dX1_addCrowd_22 ?_
    refine lv_iload_n hx hb dX1_addCrowd_25 rfl (lv_at hl 0 rfl) ?_
    obtain ⟨hi11, h⟩ := chk_e h
    have hk12 := kt_elC hk10 hi11
    refine r_aldC F hG hk10 hi11 dX1_addCrowd_26 ?_
    refine lv_iload_n hx hb dX1_addCrowd_27 rfl (lv_at hl 3 rfl) ?_
    obtain ⟨M13, eM13, h⟩ := mlet_e h
    refine xp0N F hG hk12 eM13 rfl (by decide) (kw421 F.kd) rfl rfl rfl dX1_addCrowd_28 (fun H locs hG => ?_)
    refine lv_aload_n hx hb dX1_addCrowd_31 rfl (lv_at hl 1 rfl) ?_
    have hk14 := kt_crowds ha0
    refine xg1 F hG ha0 1 (by decide) (kw468 F.kd) (v := .ref (g (a0 + 3))) rfl dX1_addCrowd_32 ?_
    refine lv_iload_n hx hb dX1_addCrowd_35 rfl (lv_at hl 0 rfl) ?_
    obtain ⟨hi15, h⟩ := chk_e h
    have hk16 := kt_elC hk14 hi15
    refine r_aldC F hG hk14 hi15 dX1_addCrowd_36 ?_
    refine lv_iconst (v := 1) hx hb dX1_addCrowd_37 (by decide) ?_
    obtain ⟨M17, eM17, h⟩ := mlet_e h
    refine xp0N F hG hk16 eM17 rfl (by decide) (kw422 F.kd) rfl (by decide) (by decide) dX1_addCrowd_38 (fun H locs hG => ?_)
    refine lv_aload_n hx hb dX1_addCrowd_41 rfl (lv_at hl 1 rfl) ?_
    refine lv_dup hx hb dX1_addCrowd_42 rfl ?_
    refine xg1 F hG ha0 2 (by decide) (kw470 F.kd) (v := .int (M17 a0 2)) rfl dX1_addCrowd_43 ?_
    refine lv_iconst (v := 1) hx hb dX1_addCrowd_46 (by decide) ?_
    refine lv_iadd hx hb dX1_addCrowd_47 ?_
    obtain ⟨M18, eM18, h⟩ := mlet_e h
    refine xp1 F hG ha0 eM18 rfl (by decide) (kw470 F.kd) rfl rfl rfl dX1_addCrowd_48 (fun H locs hG => ?_)
    refine lv_iload_n hx hb dX1_addCrowd_51 rfl (lv_at hl 0 rfl) ?_
    obtain ⟨rfl, rfl⟩ := som2 h
    exact end_i F hr hlk hG dX1_addCrowd_52
set_option maxHeartbeats 4000000 in
set_option maxRecDepth 100000 in
theorem c_X1_addPatrol (l : Launch) (D : va_G) (ca : vCA) (g : Nat → Nat) {fu : Nat} {M : Mem} {a0 : Nat} {x1 : Int32} {x2 : Int32} {x3 : Int32} {M' : Mem} {r : Int32} (ha0 : kd a0 = 1) (h : m_X1_addPatrol fu M a0 x1 x2 x3 = some (M', r)) : cM l yX1_addPatrol cX1_addPatrol 5 (some .int) { frames := 0, cells := 0, slots := 0, locals := 0 } D ca g M [.ref (g a0), .int x1, .int x2, .int x3] (fun sz => cQi D ca g sz M' r) := by
  refine mk_Met (by decide) (Nat.le_of_ble_eq_true rfl) ?_
  intro p e s m below meth c F hr hlk hnm hG ls hl
  have hx := F.1
  have hb := F.2.1
  replace hl : lv_has ls 5 [(0, .ref (g a0)), (1, .int x1), (2, .int x2), (3, .int x3)] := hl
  unfold m_X1_addPatrol at h
  refine lv_aload_n hx hb dX1_addPatrol_0 rfl (lv_at hl 0 rfl) ?_
  refine xg1 F hG ha0 4 (by decide) (kw474 F.kd) (v := .int (M a0 4)) rfl dX1_addPatrol_1 ?_
  refine lv_topi (fun x5 ex5 => ?_)
  have h := mlet_n h ex5
  refine lv_istore (lv' := [(4, .int x5), (0, .ref (g a0)), (1, .int x1), (2, .int x2), (3, .int x3)]) hx hb dX1_addPatrol_4 hl (by decide) rfl (fun ls hl => ?_)
  refine lv_iload hx hb dX1_addPatrol_6 (lv_at hl 0 rfl) ?_
  refine lv_iconst (v := 3) hx hb dX1_addPatrol_8 (by decide) ?_
  refine lv_icmp_ge (tgt := 55) hx hb dX1_addPatrol_9 (by decide) (fun c6 => ?_) (fun c6 => ?_)
  · have h := ite_t h c6
    refine lv_iload hx hb dX1_addPatrol_55 (lv_at hl 0 rfl) ?_
    obtain ⟨rfl, rfl⟩ := som2 h
    exact end_i F hr hlk hG dX1_addPatrol_57
  · have h := ite_f h c6
    refine lv_aload_n hx hb dX1_addPatrol_12 rfl (lv_at hl 1 rfl) ?_
    have hk7 := kt_patrols ha0
    refine xg1 F hG ha0 3 (by decide) (kw472 F.kd) (v := .ref (g (a0 + 4))) rfl dX1_addPatrol_13 ?_
    refine lv_iload hx hb dX1_addPatrol_16 (lv_at hl 0 rfl) ?_
    obtain ⟨hi8, h⟩ := chk_e h
    have hk9 := kt_elP hk7 hi8
    refine r_aldP F hG hk7 hi8 dX1_addPatrol_18 ?_
    refine lv_iload_n hx hb dX1_addPatrol_19 rfl (lv_at hl 2 rfl) ?_
    obtain ⟨M10, eM10, h⟩ := mlet_e h
    refine xp2N F hG hk9 eM10 rfl (by decide) (kw451 F.kd) rfl rfl rfl dX1_addPatrol_20 (fun H locs hG => ?_)
    refine lv_aload_n hx hb dX1_addPatrol_23 rfl (lv_at hl 1 rfl) ?_
    have hk11 := kt_patrols ha0
    refine xg1 F hG ha0 3 (by decide) (kw472 F.kd) (v := .ref (g (a0 + 4))) rfl dX1_addPatrol_24 ?_
    refine lv_iload hx hb dX1_addPatrol_27 (lv_at hl 0 rfl) ?_
    obtain ⟨hi12, h⟩ := chk_e h
    have hk13 := kt_elP hk11 hi12
    refine r_aldP F hG hk11 hi12 dX1_addPatrol_29 ?_
    refine lv_iload_n hx hb dX1_addPatrol_30 rfl (lv_at hl 3 rfl) ?_
    obtain ⟨M14, eM14, h⟩ := mlet_e h
    refine xp2N F hG hk13 eM14 rfl (by decide) (kw452 F.kd) rfl rfl rfl dX1_addPatrol_31 (fun H locs hG => ?_)
    refine lv_aload_n hx hb dX1_addPatrol_34 rfl (lv_at hl 1 rfl) ?_
    have hk15 := kt_patrols ha0
    refine xg1 F hG ha0 3 (by decide) (kw472 F.kd) (v := .ref (g (a0 + 4))) rfl dX1_addPatrol_35 ?_
    refine lv_iload hx hb dX1_addPatrol_38 (lv_at hl 0 rfl) ?_
    obtain ⟨hi16, h⟩ := chk_e h
    have hk17 := kt_elP hk15 hi16
    refine r_aldP F hG hk15 hi16 dX1_addPatrol_40 ?_
    refine lv_iload_n hx hb dX1_addPatrol_41 rfl (lv_at hl 4 rfl) ?_
    obtain ⟨M18, eM18, h⟩ := mlet_e h
    refine xp2N F hG hk17 eM18 rfl (by decide) (kw455 F.kd) rfl rfl rfl dX1_addPatrol_42 (fun H locs hG => ?_)
    refine lv_aload_n hx hb dX1_addPatrol_45 rfl (lv_at hl 1 rfl) ?_
    refine lv_dup hx hb dX1_addPatrol_46 rfl ?_
    refine xg1 F hG ha0 4 (by decide) (kw474 F.kd) (v := .int (M18 a0 4)) rfl dX1_addPatrol_47 ?_
    refine lv_iconst (v := 1) hx hb dX1_addPatrol_50 (by decide) ?_
    refine lv_iadd hx hb dX1_addPatrol_51 ?_
    obtain ⟨M19, eM19, h⟩ := mlet_e h
    refine xp1 F hG ha0 eM19 rfl (by decide) (kw474 F.kd) rfl rfl rfl dX1_addPatrol_52 (fun H locs hG => ?_)
    refine lv_iload hx hb dX1_addPatrol_55 (lv_at hl 0 rfl) ?_
    obtain ⟨rfl, rfl⟩ := som2 h
    exact end_i F hr hlk hG dX1_addPatrol_57
set_option maxHeartbeats 4000000 in
set_option maxRecDepth 100000 in
theorem m_X1_isTaken_L2_w {p : Program} {l : Launch} {e : Env} {s : State} {m : MethodId} {args : Array Value} {below : List Frame} {meth : Method} {c : Code} {Q : State → Prop} {D : va_G} {ca : vCA} {g : Nat → Nat} {fu : Nat} {M : Mem} {q0 : Nat} {y1 : Int32} {out : (Unit) ⊕ (Unit)} (F : FX p m c cX1_isTaken 3 s D ca g RX1) (hq0 : kd q0 = 1)
    (K0 : ∀  (H : Heap) (locs : List Loc) (ls : Array Slot), out = (Sum.inl ()) → GW D ca g s M H locs → lv_has ls 3 [(0, .ref (g q0)), (1, .int y1)] → W p l e ({ frames := 0, cells := 0, slots := 0, locals := 0 }) s m args below meth c H locs 0 0 Q (F0 m 43 ls []))
    (K1 : ∀  (H : Heap) (locs : List Loc) (ls : Array Slot), out = (Sum.inr ()) → GW D ca g s M H locs → lv_has ls 3 [] → W p l e ({ frames := 0, cells := 0, slots := 0, locals := 0 }) s m args below meth c H locs 0 0 Q (F0 m 35 ls [])) :
    ∀ (n : Nat) (z2 : Int32), m_X1_isTaken_L2 fu M q0 y1 n z2 = some out → ∀ (H : Heap) (locs : List Loc) (ls : Array Slot), GW D ca g s M H locs → lv_has ls 3 [(0, .ref (g q0)), (1, .int y1), (2, .int z2)] → W p l e ({ frames := 0, cells := 0, slots := 0, locals := 0 }) s m args below meth c H locs 0 0 Q (F0 m 2 ls []) := by
  have hx := F.1
  have hb := F.2.1
  intro n
  induction n with
  | zero =>
    intro z2 h
    exact absurd h (by simp [m_X1_isTaken_L2])
  | succ n ih =>
    intro z2 h H locs ls hG hl
    rw [m_X1_isTaken_L2] at h
    refine lv_iload_n hx hb dX1_isTaken_2 rfl (lv_at hl 2 rfl) ?_
    refine lv_aload_n hx hb dX1_isTaken_3 rfl (lv_at hl 0 rfl) ?_
    refine xg1 F hG hq0 2 (by decide) (kw470 F.kd) (v := .int (M q0 2)) rfl dX1_isTaken_4 ?_
    refine lv_icmp_ge (tgt := 43) hx hb dX1_isTaken_7 (by decide) (fun c3 => ?_) (fun c3 => ?_)
    · have h := ite_t h c3
      exact K0 _ _ _ (som1 h).symm hG (lv_sub hl [0, 1] rfl)
    · have h := ite_f h c3
      refine lv_aload_n hx hb dX1_isTaken_10 rfl (lv_at hl 0 rfl) ?_
      have hk4 := kt_crowds hq0
      refine xg1 F hG hq0 1 (by decide) (kw468 F.kd) (v := .ref (g (q0 + 3))) rfl dX1_isTaken_11 ?_
      refine lv_iload_n hx hb dX1_isTaken_14 rfl (lv_at hl 2 rfl) ?_
      obtain ⟨hi5, h⟩ := chk_e h
      have hk6 := kt_elC hk4 hi5
      refine r_aldC F hG hk4 hi5 dX1_isTaken_15 ?_
      refine xg0N F hG hk6 1 (by decide) (kw421 F.kd) (v := .int (M (elC (q0 + 3) z2) 1)) rfl dX1_isTaken_16 ?_
      refine lv_if_le (tgt := 37) hx hb dX1_isTaken_19 (by decide) (fun c7 => ?_) (fun c7 => ?_)
      · have h := ite_t h c7
        obtain ⟨x8, ex8, h⟩ := mlet_e h
        refine lv_iinc (v := x8) (lv' := [(2, .int x8), (0, .ref (g q0)), (1, .int y1)]) hx hb dX1_isTaken_37 hl (k := 2) rfl (by rw [ex8]; rfl) (by decide) rfl (fun ls hl => ?_)
        refine lv_goto (tgt := 2) hx hb dX1_isTaken_40 (by decide) ?_
        exact ih x8 h _ _ _ hG (lv_sub hl [1, 2, 0] rfl)
      · have h := ite_f h c7
        refine lv_aload_n hx hb dX1_isTaken_22 rfl (lv_at hl 0 rfl) ?_
        have hk9 := kt_crowds hq0
        refine xg1 F hG hq0 1 (by decide) (kw468 F.kd) (v := .ref (g (q0 + 3))) rfl dX1_isTaken_23 ?_
        refine lv_iload_n hx hb dX1_isTaken_26 rfl (lv_at hl 2 rfl) ?_
        obtain ⟨hi10, h⟩ := chk_e h
        have hk11 := kt_elC hk9 hi10
        refine r_aldC F hG hk9 hi10 dX1_isTaken_27 ?_
        refine xg0N F hG hk11 0 (by decide) (kw418 F.kd) (v := .int (M (elC (q0 + 3) z2) 0)) rfl dX1_isTaken_28 ?_
        refine lv_iload_n hx hb dX1_isTaken_31 rfl (lv_at hl 1 rfl) ?_
        refine lv_icmp_ne (tgt := 37) hx hb dX1_isTaken_32 (by decide) (fun c12 => ?_) (fun c12 => ?_)
        · have h := ite_f h c12
          obtain ⟨x13, ex13, h⟩ := mlet_e h
          refine lv_iinc (v := x13) (lv' := [(2, .int x13), (0, .ref (g q0)), (1, .int y1)]) hx hb dX1_isTaken_37 hl (k := 2) rfl (by rw [ex13]; rfl) (by decide) rfl (fun ls hl => ?_)
          refine lv_goto (tgt := 2) hx hb dX1_isTaken_40 (by decide) ?_
          exact ih x13 h _ _ _ hG (lv_sub hl [1, 2, 0] rfl)
        · have h := ite_t h c12
          exact K1 _ _ _ (som1 h).symm hG (lv_sub hl [] rfl)
set_option maxHeartbeats 4000000 in
set_option maxRecDepth 100000 in
theorem m_X1_isTaken_L45_w {p : Program} {l : Launch} {e : Env} {s : State} {m : MethodId} {args : Array Value} {below : List Frame} {meth : Method} {c : Code} {Q : State → Prop} {D : va_G} {ca : vCA} {g : Nat → Nat} {fu : Nat} {M : Mem} {q0 : Nat} {y1 : Int32} {out : (Unit) ⊕ (Unit)} (F : FX p m c cX1_isTaken 3 s D ca g RX1) (hq0 : kd q0 = 1)
    (K0 : ∀  (H : Heap) (locs : List Loc) (ls : Array Slot), out = (Sum.inl ()) → GW D ca g s M H locs → lv_has ls 3 [] → W p l e ({ frames := 0, cells := 0, slots := 0, locals := 0 }) s m args below meth c H locs 0 0 Q (F0 m 74 ls []))
    (K1 : ∀  (H : Heap) (locs : List Loc) (ls : Array Slot), out = (Sum.inr ()) → GW D ca g s M H locs → lv_has ls 3 [] → W p l e ({ frames := 0, cells := 0, slots := 0, locals := 0 }) s m args below meth c H locs 0 0 Q (F0 m 66 ls [])) :
    ∀ (n : Nat) (z2 : Int32), m_X1_isTaken_L45 fu M q0 y1 n z2 = some out → ∀ (H : Heap) (locs : List Loc) (ls : Array Slot), GW D ca g s M H locs → lv_has ls 3 [(0, .ref (g q0)), (1, .int y1), (2, .int z2)] → W p l e ({ frames := 0, cells := 0, slots := 0, locals := 0 }) s m args below meth c H locs 0 0 Q (F0 m 45 ls []) := by
  have hx := F.1
  have hb := F.2.1
  intro n
  induction n with
  | zero =>
    intro z2 h
    exact absurd h (by simp [m_X1_isTaken_L45])
  | succ n ih =>
    intro z2 h H locs ls hG hl
    rw [m_X1_isTaken_L45] at h
    refine lv_iload_n hx hb dX1_isTaken_45 rfl (lv_at hl 2 rfl) ?_
    refine lv_aload_n hx hb dX1_isTaken_46 rfl (lv_at hl 0 rfl) ?_
    refine xg1 F hG hq0 4 (by decide) (kw474 F.kd) (v := .int (M q0 4)) rfl dX1_isTaken_47 ?_
    refine lv_icmp_ge (tgt := 74) hx hb dX1_isTaken_50 (by decide) (fun c16 => ?_) (fun c16 => ?_)
    · have h := ite_t h c16
      exact K0 _ _ _ (som1 h).symm hG (lv_sub hl [] rfl)
    · have h := ite_f h c16
      refine lv_aload_n hx hb dX1_isTaken_53 rfl (lv_at hl 0 rfl) ?_
      have hk17 := kt_patrols hq0
      refine xg1 F hG hq0 3 (by decide) (kw472 F.kd) (v := .ref (g (q0 + 4))) rfl dX1_isTaken_54 ?_
      refine lv_iload_n hx hb dX1_isTaken_57 rfl (lv_at hl 2 rfl) ?_
      obtain ⟨hi18, h⟩ := chk_e h
      have hk19 := kt_elP hk17 hi18
      refine r_aldP F hG hk17 hi18 dX1_isTaken_58 ?_
      refine xg2N F hG hk19 0 (by decide) (kw451 F.kd) (v := .int (M (elP (q0 + 4) z2) 0)) rfl dX1_isTaken_59 ?_
      refine lv_iload_n hx hb dX1_isTaken_62 rfl (lv_at hl 1 rfl) ?_
      refine lv_icmp_ne (tgt := 68) hx hb dX1_isTaken_63 (by decide) (fun c20 => ?_) (fun c20 => ?_)
      · have h := ite_f h c20
        obtain ⟨x21, ex21, h⟩ := mlet_e h
        refine lv_iinc (v := x21) (lv' := [(2, .int x21), (0, .ref (g q0)), (1, .int y1)]) hx hb dX1_isTaken_68 hl (k := 2) rfl (by rw [ex21]; rfl) (by decide) rfl (fun ls hl => ?_)
        refine lv_goto (tgt := 45) hx hb dX1_isTaken_71 (by decide) ?_
        exact ih x21 h _ _ _ hG (lv_sub hl [1, 2, 0] rfl)
      · have h := ite_t h c20
        exact K1 _ _ _ (som1 h).symm hG (lv_sub hl [] rfl)
set_option maxHeartbeats 4000000 in
set_option maxRecDepth 100000 in
theorem c_X1_isTaken (l : Launch) (D : va_G) (ca : vCA) (g : Nat → Nat) {fu : Nat} {M : Mem} {a0 : Nat} {x1 : Int32} {r : Int32} (ha0 : kd a0 = 1) (h : m_X1_isTaken fu M a0 x1 = some r) : cM l yX1_isTaken cX1_isTaken 3 (some .boolean) { frames := 0, cells := 0, slots := 0, locals := 0 } D ca g M [.ref (g a0), .int x1] (fun sz => cQi D ca g sz M r) := by
  refine mk_Met (by decide) (Nat.le_of_ble_eq_true rfl) ?_
  intro p e s m below meth c F hr hlk hnm hG ls hl
  have hx := F.1
  have hb := F.2.1
  replace hl : lv_has ls 3 [(0, .ref (g a0)), (1, .int x1)] := hl
  unfold m_X1_isTaken at h
  refine lv_iconst (v := 0) hx hb dX1_isTaken_0 (by decide) ?_
  refine lv_istore_n (lv' := [(2, .int 0), (0, .ref (g a0)), (1, .int x1)]) hx hb dX1_isTaken_1 rfl hl (by decide) rfl (fun ls hl => ?_)
  obtain ⟨o14, ho15, h⟩ := cb1_e h
  refine m_X1_isTaken_L2_w (out := o14) F ha0 ?_ ?_ _ _ ho15 _ _ _ hG (lv_sub hl [1, 2, 0] rfl)
  · intro H locs ls eo hG hl
    subst o14
    have h := se_l h
    refine lv_iconst (v := 0) hx hb dX1_isTaken_43 (by decide) ?_
    refine lv_istore_n (lv' := [(2, .int 0), (0, .ref (g a0)), (1, .int x1)]) hx hb dX1_isTaken_44 rfl hl (by decide) rfl (fun ls hl => ?_)
    obtain ⟨o22, ho23, h⟩ := cb1_e h
    refine m_X1_isTaken_L45_w (out := o22) F ha0 ?_ ?_ _ _ ho23 _ _ _ hG (lv_sub hl [1, 2, 0] rfl)
    · intro H locs ls eo hG hl
      subst o22
      have h := se_l h
      refine lv_iconst (v := 0) hx hb dX1_isTaken_74 (by decide) ?_
      obtain rfl := som1 h
      exact end_z F hr hlk (by decide) hG dX1_isTaken_75
    · intro H locs ls eo hG hl
      subst o22
      have h := se_r h
      refine lv_iconst (v := 1) hx hb dX1_isTaken_66 (by decide) ?_
      obtain rfl := som1 h
      exact end_z F hr hlk (by decide) hG dX1_isTaken_67
  · intro H locs ls eo hG hl
    subst o14
    have h := se_r h
    refine lv_iconst (v := 1) hx hb dX1_isTaken_35 (by decide) ?_
    obtain rfl := som1 h
    exact end_z F hr hlk (by decide) hG dX1_isTaken_36
set_option maxHeartbeats 4000000 in
set_option maxRecDepth 100000 in
theorem m_X1_isSeen_L113_w {p : Program} {l : Launch} {e : Env} {s : State} {m : MethodId} {args : Array Value} {below : List Frame} {meth : Method} {c : Code} {Q : State → Prop} {D : va_G} {ca : vCA} {g : Nat → Nat} {fu : Nat} {M : Mem} {q0 : Nat} {y5 : Int32} {y7 : Int32} {y8 : Int32} {out : (Unit) ⊕ (Unit)} (F : FX p m c cX1_isSeen 10 s D ca g RX1) (hq0 : kd q0 = 1)
    (K0 : ∀  (H : Heap) (locs : List Loc) (ls : Array Slot), out = (Sum.inl ()) → GW D ca g s M H locs → lv_has ls 10 [] → W p l e ({ frames := 1, cells := 0, slots := 0, locals := 21 }) s m args below meth c H locs 0 0 Q (F0 m 146 ls []))
    (K1 : ∀  (H : Heap) (locs : List Loc) (ls : Array Slot), out = (Sum.inr ()) → GW D ca g s M H locs → lv_has ls 10 [] → W p l e ({ frames := 1, cells := 0, slots := 0, locals := 21 }) s m args below meth c H locs 0 0 Q (F0 m 138 ls [])) :
    ∀ (n : Nat) (z9 : Int32), m_X1_isSeen_L113 fu M q0 y5 y7 y8 n z9 = some out → ∀ (H : Heap) (locs : List Loc) (ls : Array Slot), GW D ca g s M H locs → lv_has ls 10 [(0, .ref (g q0)), (5, .int y5), (7, .int y7), (8, .int y8), (9, .int z9)] → W p l e ({ frames := 1, cells := 0, slots := 0, locals := 21 }) s m args below meth c H locs 0 0 Q (F0 m 113 ls []) := by
  have hx := F.1
  have hb := F.2.1
  intro n
  induction n with
  | zero =>
    intro z9 h
    exact absurd h (by simp [m_X1_isSeen_L113])
  | succ n ih =>
    intro z9 h H locs ls hG hl
    rw [m_X1_isSeen_L113] at h
    refine lv_iload hx hb dX1_isSeen_113 (lv_at hl 4 rfl) ?_
    refine lv_iload hx hb dX1_isSeen_115 (lv_at hl 1 rfl) ?_
    refine lv_icmp_ge (tgt := 146) hx hb dX1_isSeen_117 (by decide) (fun c21 => ?_) (fun c21 => ?_)
    · have h := ite_t h c21
      exact K0 _ _ _ (som1 h).symm hG (lv_sub hl [] rfl)
    · have h := ite_f h c21
      refine lv_aload_n hx hb dX1_isSeen_120 rfl (lv_at hl 0 rfl) ?_
      have hk22 := kt_quarter hq0
      refine xg1 F hG hq0 0 (by decide) (kw466 F.kd) (v := .ref (g (q0 + 1))) rfl dX1_isSeen_121 ?_
      refine lv_iload hx hb dX1_isSeen_124 (lv_at hl 2 rfl) ?_
      refine lv_iload hx hb dX1_isSeen_126 (lv_at hl 4 rfl) ?_
      refine lv_iload hx hb dX1_isSeen_128 (lv_at hl 3 rfl) ?_
      refine lv_imul hx hb dX1_isSeen_130 ?_
      refine lv_iadd hx hb dX1_isSeen_131 ?_
      obtain ⟨r24, hc23, h⟩ := cb1_e h
      refine k_i (r_runVN F hG (c_X3_at l D ca g hk22 hc23) (kd_lt hk22 (by decide)) (gd3 hk22) rfl (kw140 F.kd) (kw95 F.kd) (ks_X3_at F.kd) (kw3 F.kd) (kw97 F.kd) yd_X3_at ⟨Nat.le_of_ble_eq_true rfl, Nat.le_of_ble_eq_true rfl⟩ rfl hl.1 rfl (Nat.le_of_ble_eq_true rfl) dX1_isSeen_132 ⟨Nat.le_of_ble_eq_true rfl, Nat.le_of_ble_eq_true rfl⟩) hG (fun H locs hG => ?_)
      refine lv_if_eq (tgt := 140) hx hb dX1_isSeen_135 (by decide) (fun c25 => ?_) (fun c25 => ?_)
      · have h := ite_t h c25
        obtain ⟨x26, ex26, h⟩ := mlet_e h
        refine lv_iinc (v := x26) (lv' := [(9, .int x26), (0, .ref (g q0)), (5, .int y5), (7, .int y7), (8, .int y8)]) hx hb dX1_isSeen_140 hl (k := 4) rfl (by rw [ex26]; rfl) (by decide) rfl (fun ls hl => ?_)
        refine lv_goto (tgt := 113) hx hb dX1_isSeen_143 (by decide) ?_
        exact ih x26 h _ _ _ hG (lv_sub hl [1, 2, 3, 4, 0] rfl)
      · have h := ite_f h c25
        exact K1 _ _ _ (som1 h).symm hG (lv_sub hl [] rfl)
set_option maxHeartbeats 4000000 in
set_option maxRecDepth 100000 in
theorem c_X1_isSeen (l : Launch) (D : va_G) (ca : vCA) (g : Nat → Nat) {fu : Nat} {M : Mem} {a0 : Nat} {a1 : Nat} {a2 : Nat} {r : Int32} (ha0 : kd a0 = 1) (ha1 : kd a1 = 2) (ha2 : kd a2 = 0) (h : m_X1_isSeen fu M a0 a1 a2 = some r) : cM l yX1_isSeen cX1_isSeen 10 (some .boolean) { frames := 1, cells := 0, slots := 0, locals := 21 } D ca g M [.ref (g a0), .ref (g a1), .ref (g a2)] (fun sz => cQi D ca g sz M r) := by
  refine mk_Met (by decide) (Nat.le_of_ble_eq_true rfl) ?_
  intro p e s m below meth c F hr hlk hnm hG ls hl
  have hx := F.1
  have hb := F.2.1
  replace hl : lv_has ls 10 [(0, .ref (g a0)), (1, .ref (g a1)), (2, .ref (g a2))] := hl
  unfold m_X1_isSeen at h
  refine lv_aload_n hx hb dX1_isSeen_0 rfl (lv_at hl 2 rfl) ?_
  refine xg0N F hG ha2 0 (by decide) (kw418 F.kd) (v := .int (M a2 0)) rfl dX1_isSeen_1 ?_
  refine lv_bipush (v := 12) hx hb dX1_isSeen_4 (by decide) ?_
  obtain ⟨x4, ex4, h⟩ := mlet_e h
  rw [← ex4]
  refine lv_irem hx hb dX1_isSeen_6 (by decide) ?_
  refine lv_aload_n hx hb dX1_isSeen_7 rfl (lv_at hl 1 rfl) ?_
  refine xg2N F hG ha1 0 (by decide) (kw451 F.kd) (v := .int (M a1 0)) rfl dX1_isSeen_8 ?_
  refine lv_bipush (v := 12) hx hb dX1_isSeen_11 (by decide) ?_
  obtain ⟨x5, ex5, h⟩ := mlet_e h
  rw [← ex5]
  refine lv_irem hx hb dX1_isSeen_13 (by decide) ?_
  refine lv_isub hx hb dX1_isSeen_14 ?_
  obtain ⟨x6, ex6, h⟩ := mlet_e h
  rw [← ex6]
  refine va_mabs hx hb (F.2.2.1.trans hl.1.symm) F.2.2.2.1 (kw130 F.kd) (kw131 F.kd) (kw14 F.kd) (kw132 F.kd) (Nat.le_of_ble_eq_true rfl) (Nat.le_of_ble_eq_true rfl) (Nat.zero_le _) (Nat.zero_le _) dX1_isSeen_15 ?_
  refine lv_topi (fun x7 ex7 => ?_)
  have h := mlet_n h ex7
  refine lv_istore_n (lv' := [(3, .int x7), (0, .ref (g a0)), (1, .ref (g a1)), (2, .ref (g a2))]) hx hb dX1_isSeen_18 rfl hl (by decide) rfl (fun ls hl => ?_)
  refine lv_aload_n hx hb dX1_isSeen_19 rfl (lv_at hl 3 rfl) ?_
  refine xg0N F hG ha2 0 (by decide) (kw418 F.kd) (v := .int (M a2 0)) rfl dX1_isSeen_20 ?_
  refine lv_bipush (v := 12) hx hb dX1_isSeen_23 (by decide) ?_
  refine lv_idiv hx hb dX1_isSeen_25 (by decide) ?_
  refine lv_aload_n hx hb dX1_isSeen_26 rfl (lv_at hl 2 rfl) ?_
  refine xg2N F hG ha1 0 (by decide) (kw451 F.kd) (v := .int (M a1 0)) rfl dX1_isSeen_27 ?_
  refine lv_bipush (v := 12) hx hb dX1_isSeen_30 (by decide) ?_
  refine lv_idiv hx hb dX1_isSeen_32 (by decide) ?_
  refine lv_isub hx hb dX1_isSeen_33 ?_
  obtain ⟨x8, ex8, h⟩ := mlet_e h
  rw [← ex8]
  refine va_mabs hx hb (F.2.2.1.trans hl.1.symm) F.2.2.2.1 (kw130 F.kd) (kw131 F.kd) (kw14 F.kd) (kw132 F.kd) (Nat.le_of_ble_eq_true rfl) (Nat.le_of_ble_eq_true rfl) (Nat.zero_le _) (Nat.zero_le _) dX1_isSeen_34 ?_
  refine lv_topi (fun x9 ex9 => ?_)
  have h := mlet_n h ex9
  refine lv_istore (lv' := [(4, .int x9), (3, .int x7), (0, .ref (g a0)), (1, .ref (g a1)), (2, .ref (g a2))]) hx hb dX1_isSeen_37 hl (by decide) rfl (fun ls hl => ?_)
  refine lv_iload_n hx hb dX1_isSeen_39 rfl (lv_at hl 1 rfl) ?_
  refine lv_iload hx hb dX1_isSeen_40 (lv_at hl 0 rfl) ?_
  refine lv_iadd hx hb dX1_isSeen_42 ?_
  refine lv_topi (fun x10 ex10 => ?_)
  have h := mlet_n h ex10
  refine lv_istore (lv' := [(5, .int x10), (4, .int x9), (3, .int x7), (0, .ref (g a0)), (1, .ref (g a1)), (2, .ref (g a2))]) hx hb dX1_isSeen_43 hl (by decide) rfl (fun ls hl => ?_)
  refine lv_aload_n hx hb dX1_isSeen_45 rfl (lv_at hl 5 rfl) ?_
  refine xg0N F hG ha2 2 (by decide) (kw422 F.kd) (v := .int (M a2 2)) rfl dX1_isSeen_46 ?_
  refine lv_if_eq (tgt := 56) hx hb dX1_isSeen_49 (by decide) (fun c11 => ?_) (fun c11 => ?_)
  · have h := ite_t h c11
    refine lv_iconst (v := 1) hx hb dX1_isSeen_56 (by decide) ?_
    refine lv_istore (lv' := [(6, .int 1), (5, .int x10), (4, .int x9), (3, .int x7), (0, .ref (g a0)), (1, .ref (g a1)), (2, .ref (g a2))]) hx hb dX1_isSeen_57 hl (by decide) rfl (fun ls hl => ?_)
    refine lv_aload_n hx hb dX1_isSeen_59 rfl (lv_at hl 6 rfl) ?_
    obtain ⟨r13, hc12, h⟩ := cb1_e h
    refine k_i (r_runVN F hG (c_X0_isScattered l D ca g ha2 hc12) (kd_lt ha2 (by decide)) (gd0 ha2) rfl (kw133 F.kd) (kw135 F.kd) (ks_X0_isScattered F.kd) (kw4 F.kd) (kw136 F.kd) yd_X0_isScattered ⟨Nat.le_of_ble_eq_true rfl, Nat.le_of_ble_eq_true rfl⟩ rfl hl.1 rfl (Nat.le_of_ble_eq_true rfl) dX1_isSeen_60 ⟨Nat.le_of_ble_eq_true rfl, Nat.le_of_ble_eq_true rfl⟩) hG (fun H locs hG => ?_)
    refine lv_if_ne (tgt := 82) hx hb dX1_isSeen_63 (by decide) (fun c14 => ?_) (fun c14 => ?_)
    · have h := ite_f h c14
      refine lv_iconst (v := 0) hx hb dX1_isSeen_82 (by decide) ?_
      obtain rfl := som1 h
      exact end_z F hr hlk (by decide) hG dX1_isSeen_83
    · have h := ite_t h c14
      refine lv_iload_n hx hb dX1_isSeen_66 rfl (lv_at hl 3 rfl) ?_
      refine lv_if_le (tgt := 75) hx hb dX1_isSeen_67 (by decide) (fun c15 => ?_) (fun c15 => ?_)
      · have h := ite_t h c15
        refine lv_iload hx hb dX1_isSeen_75 (lv_at hl 1 rfl) ?_
        refine lv_iload hx hb dX1_isSeen_77 (lv_at hl 0 rfl) ?_
        refine lv_icmp_le (tgt := 84) hx hb dX1_isSeen_79 (by decide) (fun c16 => ?_) (fun c16 => ?_)
        · have h := ite_t h c16
          refine lv_aload_n hx hb dX1_isSeen_84 rfl (lv_at hl 6 rfl) ?_
          refine xg0N F hG ha2 0 (by decide) (kw418 F.kd) (v := .int (M a2 0)) rfl dX1_isSeen_85 ?_
          refine lv_aload_n hx hb dX1_isSeen_88 rfl (lv_at hl 5 rfl) ?_
          refine xg2N F hG ha1 0 (by decide) (kw451 F.kd) (v := .int (M a1 0)) rfl dX1_isSeen_89 ?_
          obtain ⟨x17, ex17, h⟩ := mlet_e h
          rw [← ex17]
          obtain ⟨x18, ex18, h⟩ := mlet_e h
          rw [← ex18]
          refine va_mmin hx hb (F.2.2.1.trans hl.1.symm) F.2.2.2.1 (kw137 F.kd) (kw138 F.kd) (kw14 F.kd) (kw139 F.kd) (Nat.le_of_ble_eq_true rfl) (Nat.le_of_ble_eq_true rfl) (Nat.zero_le _) (Nat.zero_le _) dX1_isSeen_92 ?_
          refine lv_topi (fun x19 ex19 => ?_)
          have h := mlet_n h ex19
          refine lv_istore (lv' := [(7, .int x19), (6, .int 1), (5, .int x10), (4, .int x9), (3, .int x7), (0, .ref (g a0)), (1, .ref (g a1)), (2, .ref (g a2))]) hx hb dX1_isSeen_95 hl (by decide) rfl (fun ls hl => ?_)
          refine lv_iload hx hb dX1_isSeen_97 (lv_at hl 3 rfl) ?_
          refine lv_if_ne (tgt := 106) hx hb dX1_isSeen_99 (by decide) (fun c20 => ?_) (fun c20 => ?_)
          · have h := ite_f h c20
            refine lv_bipush (v := 12) hx hb dX1_isSeen_106 (by decide) ?_
            refine lv_istore (lv' := [(8, .int 12), (7, .int x19), (6, .int 1), (5, .int x10), (4, .int x9), (3, .int x7), (0, .ref (g a0)), (1, .ref (g a1)), (2, .ref (g a2))]) hx hb dX1_isSeen_108 hl (by decide) rfl (fun ls hl => ?_)
            refine lv_iconst (v := 1) hx hb dX1_isSeen_110 (by decide) ?_
            refine lv_istore (lv' := [(9, .int 1), (8, .int 12), (7, .int x19), (6, .int 1), (5, .int x10), (4, .int x9), (3, .int x7), (0, .ref (g a0)), (1, .ref (g a1)), (2, .ref (g a2))]) hx hb dX1_isSeen_111 hl (by decide) rfl (fun ls hl => ?_)
            obtain ⟨o27, ho28, h⟩ := cb1_e h
            refine m_X1_isSeen_L113_w (out := o27) F ha0 ?_ ?_ _ _ ho28 _ _ _ hG (lv_sub hl [7, 4, 2, 1, 0] rfl)
            · intro H locs ls eo hG hl
              subst o27
              have h := se_l h
              refine lv_iconst (v := 1) hx hb dX1_isSeen_146 (by decide) ?_
              obtain rfl := som1 h
              exact end_z F hr hlk (by decide) hG dX1_isSeen_147
            · intro H locs ls eo hG hl
              subst o27
              have h := se_r h
              refine lv_iconst (v := 0) hx hb dX1_isSeen_138 (by decide) ?_
              obtain rfl := som1 h
              exact end_z F hr hlk (by decide) hG dX1_isSeen_139
          · have h := ite_t h c20
            refine lv_iconst (v := 1) hx hb dX1_isSeen_102 (by decide) ?_
            refine lv_goto (tgt := 108) hx hb dX1_isSeen_103 (by decide) ?_
            refine lv_istore (lv' := [(8, .int 1), (7, .int x19), (6, .int 1), (5, .int x10), (4, .int x9), (3, .int x7), (0, .ref (g a0)), (1, .ref (g a1)), (2, .ref (g a2))]) hx hb dX1_isSeen_108 hl (by decide) rfl (fun ls hl => ?_)
            refine lv_iconst (v := 1) hx hb dX1_isSeen_110 (by decide) ?_
            refine lv_istore (lv' := [(9, .int 1), (8, .int 1), (7, .int x19), (6, .int 1), (5, .int x10), (4, .int x9), (3, .int x7), (0, .ref (g a0)), (1, .ref (g a1)), (2, .ref (g a2))]) hx hb dX1_isSeen_111 hl (by decide) rfl (fun ls hl => ?_)
            obtain ⟨o29, ho30, h⟩ := cb1_e h
            refine m_X1_isSeen_L113_w (out := o29) F ha0 ?_ ?_ _ _ ho30 _ _ _ hG (lv_sub hl [7, 4, 2, 1, 0] rfl)
            · intro H locs ls eo hG hl
              subst o29
              have h := se_l h
              refine lv_iconst (v := 1) hx hb dX1_isSeen_146 (by decide) ?_
              obtain rfl := som1 h
              exact end_z F hr hlk (by decide) hG dX1_isSeen_147
            · intro H locs ls eo hG hl
              subst o29
              have h := se_r h
              refine lv_iconst (v := 0) hx hb dX1_isSeen_138 (by decide) ?_
              obtain rfl := som1 h
              exact end_z F hr hlk (by decide) hG dX1_isSeen_139
        · have h := ite_f h c16
          refine lv_iconst (v := 0) hx hb dX1_isSeen_82 (by decide) ?_
          obtain rfl := som1 h
          exact end_z F hr hlk (by decide) hG dX1_isSeen_83
      · have h := ite_f h c15
        refine lv_iload hx hb dX1_isSeen_70 (lv_at hl 2 rfl) ?_
        refine lv_if_gt (tgt := 82) hx hb dX1_isSeen_72 (by decide) (fun c31 => ?_) (fun c31 => ?_)
        · have h := ite_t h c31
          refine lv_iconst (v := 0) hx hb dX1_isSeen_82 (by decide) ?_
          obtain rfl := som1 h
          exact end_z F hr hlk (by decide) hG dX1_isSeen_83
        · have h := ite_f h c31
          refine lv_iload hx hb dX1_isSeen_75 (lv_at hl 1 rfl) ?_
          refine lv_iload hx hb dX1_isSeen_77 (lv_at hl 0 rfl) ?_
          refine lv_icmp_le (tgt := 84) hx hb dX1_isSeen_79 (by decide) (fun c32 => ?_) (fun c32 => ?_)
          · have h := ite_t h c32
            refine lv_aload_n hx hb dX1_isSeen_84 rfl (lv_at hl 6 rfl) ?_
            refine xg0N F hG ha2 0 (by decide) (kw418 F.kd) (v := .int (M a2 0)) rfl dX1_isSeen_85 ?_
            refine lv_aload_n hx hb dX1_isSeen_88 rfl (lv_at hl 5 rfl) ?_
            refine xg2N F hG ha1 0 (by decide) (kw451 F.kd) (v := .int (M a1 0)) rfl dX1_isSeen_89 ?_
            obtain ⟨x33, ex33, h⟩ := mlet_e h
            rw [← ex33]
            obtain ⟨x34, ex34, h⟩ := mlet_e h
            rw [← ex34]
            refine va_mmin hx hb (F.2.2.1.trans hl.1.symm) F.2.2.2.1 (kw137 F.kd) (kw138 F.kd) (kw14 F.kd) (kw139 F.kd) (Nat.le_of_ble_eq_true rfl) (Nat.le_of_ble_eq_true rfl) (Nat.zero_le _) (Nat.zero_le _) dX1_isSeen_92 ?_
            refine lv_topi (fun x35 ex35 => ?_)
            have h := mlet_n h ex35
            refine lv_istore (lv' := [(7, .int x35), (6, .int 1), (5, .int x10), (4, .int x9), (3, .int x7), (0, .ref (g a0)), (1, .ref (g a1)), (2, .ref (g a2))]) hx hb dX1_isSeen_95 hl (by decide) rfl (fun ls hl => ?_)
            refine lv_iload hx hb dX1_isSeen_97 (lv_at hl 3 rfl) ?_
            refine lv_if_ne (tgt := 106) hx hb dX1_isSeen_99 (by decide) (fun c36 => ?_) (fun c36 => ?_)
            · have h := ite_f h c36
              refine lv_bipush (v := 12) hx hb dX1_isSeen_106 (by decide) ?_
              refine lv_istore (lv' := [(8, .int 12), (7, .int x35), (6, .int 1), (5, .int x10), (4, .int x9), (3, .int x7), (0, .ref (g a0)), (1, .ref (g a1)), (2, .ref (g a2))]) hx hb dX1_isSeen_108 hl (by decide) rfl (fun ls hl => ?_)
              refine lv_iconst (v := 1) hx hb dX1_isSeen_110 (by decide) ?_
              refine lv_istore (lv' := [(9, .int 1), (8, .int 12), (7, .int x35), (6, .int 1), (5, .int x10), (4, .int x9), (3, .int x7), (0, .ref (g a0)), (1, .ref (g a1)), (2, .ref (g a2))]) hx hb dX1_isSeen_111 hl (by decide) rfl (fun ls hl => ?_)
              obtain ⟨o37, ho38, h⟩ := cb1_e h
              refine m_X1_isSeen_L113_w (out := o37) F ha0 ?_ ?_ _ _ ho38 _ _ _ hG (lv_sub hl [7, 4, 2, 1, 0] rfl)
              · intro H locs ls eo hG hl
                subst o37
                have h := se_l h
                refine lv_iconst (v := 1) hx hb dX1_isSeen_146 (by decide) ?_
                obtain rfl := som1 h
                exact end_z F hr hlk (by decide) hG dX1_isSeen_147
              · intro H locs ls eo hG hl
                subst o37
                have h := se_r h
                refine lv_iconst (v := 0) hx hb dX1_isSeen_138 (by decide) ?_
                obtain rfl := som1 h
                exact end_z F hr hlk (by decide) hG dX1_isSeen_139
            · have h := ite_t h c36
              refine lv_iconst (v := 1) hx hb dX1_isSeen_102 (by decide) ?_
              refine lv_goto (tgt := 108) hx hb dX1_isSeen_103 (by decide) ?_
              refine lv_istore (lv' := [(8, .int 1), (7, .int x35), (6, .int 1), (5, .int x10), (4, .int x9), (3, .int x7), (0, .ref (g a0)), (1, .ref (g a1)), (2, .ref (g a2))]) hx hb dX1_isSeen_108 hl (by decide) rfl (fun ls hl => ?_)
              refine lv_iconst (v := 1) hx hb dX1_isSeen_110 (by decide) ?_
              refine lv_istore (lv' := [(9, .int 1), (8, .int 1), (7, .int x35), (6, .int 1), (5, .int x10), (4, .int x9), (3, .int x7), (0, .ref (g a0)), (1, .ref (g a1)), (2, .ref (g a2))]) hx hb dX1_isSeen_111 hl (by decide) rfl (fun ls hl => ?_)
              obtain ⟨o39, ho40, h⟩ := cb1_e h
              refine m_X1_isSeen_L113_w (out := o39) F ha0 ?_ ?_ _ _ ho40 _ _ _ hG (lv_sub hl [7, 4, 2, 1, 0] rfl)
              · intro H locs ls eo hG hl
                subst o39
                have h := se_l h
                refine lv_iconst (v := 1) hx hb dX1_isSeen_146 (by decide) ?_
                obtain rfl := som1 h
                exact end_z F hr hlk (by decide) hG dX1_isSeen_147
              · intro H locs ls eo hG hl
                subst o39
                have h := se_r h
                refine lv_iconst (v := 0) hx hb dX1_isSeen_138 (by decide) ?_
                obtain rfl := som1 h
                exact end_z F hr hlk (by decide) hG dX1_isSeen_139
          · have h := ite_f h c32
            refine lv_iconst (v := 0) hx hb dX1_isSeen_82 (by decide) ?_
            obtain rfl := som1 h
            exact end_z F hr hlk (by decide) hG dX1_isSeen_83
  · have h := ite_f h c11
    refine lv_iconst (v := 4) hx hb dX1_isSeen_52 (by decide) ?_
    refine lv_goto (tgt := 57) hx hb dX1_isSeen_53 (by decide) ?_
    refine lv_istore (lv' := [(6, .int 4), (5, .int x10), (4, .int x9), (3, .int x7), (0, .ref (g a0)), (1, .ref (g a1)), (2, .ref (g a2))]) hx hb dX1_isSeen_57 hl (by decide) rfl (fun ls hl => ?_)
    refine lv_aload_n hx hb dX1_isSeen_59 rfl (lv_at hl 6 rfl) ?_
    obtain ⟨r42, hc41, h⟩ := cb1_e h
    refine k_i (r_runVN F hG (c_X0_isScattered l D ca g ha2 hc41) (kd_lt ha2 (by decide)) (gd0 ha2) rfl (kw133 F.kd) (kw135 F.kd) (ks_X0_isScattered F.kd) (kw4 F.kd) (kw136 F.kd) yd_X0_isScattered ⟨Nat.le_of_ble_eq_true rfl, Nat.le_of_ble_eq_true rfl⟩ rfl hl.1 rfl (Nat.le_of_ble_eq_true rfl) dX1_isSeen_60 ⟨Nat.le_of_ble_eq_true rfl, Nat.le_of_ble_eq_true rfl⟩) hG (fun H locs hG => ?_)
    refine lv_if_ne (tgt := 82) hx hb dX1_isSeen_63 (by decide) (fun c43 => ?_) (fun c43 => ?_)
    · have h := ite_f h c43
      refine lv_iconst (v := 0) hx hb dX1_isSeen_82 (by decide) ?_
      obtain rfl := som1 h
      exact end_z F hr hlk (by decide) hG dX1_isSeen_83
    · have h := ite_t h c43
      refine lv_iload_n hx hb dX1_isSeen_66 rfl (lv_at hl 3 rfl) ?_
      refine lv_if_le (tgt := 75) hx hb dX1_isSeen_67 (by decide) (fun c44 => ?_) (fun c44 => ?_)
      · have h := ite_t h c44
        refine lv_iload hx hb dX1_isSeen_75 (lv_at hl 1 rfl) ?_
        refine lv_iload hx hb dX1_isSeen_77 (lv_at hl 0 rfl) ?_
        refine lv_icmp_le (tgt := 84) hx hb dX1_isSeen_79 (by decide) (fun c45 => ?_) (fun c45 => ?_)
        · have h := ite_t h c45
          refine lv_aload_n hx hb dX1_isSeen_84 rfl (lv_at hl 6 rfl) ?_
          refine xg0N F hG ha2 0 (by decide) (kw418 F.kd) (v := .int (M a2 0)) rfl dX1_isSeen_85 ?_
          refine lv_aload_n hx hb dX1_isSeen_88 rfl (lv_at hl 5 rfl) ?_
          refine xg2N F hG ha1 0 (by decide) (kw451 F.kd) (v := .int (M a1 0)) rfl dX1_isSeen_89 ?_
          obtain ⟨x46, ex46, h⟩ := mlet_e h
          rw [← ex46]
          obtain ⟨x47, ex47, h⟩ := mlet_e h
          rw [← ex47]
          refine va_mmin hx hb (F.2.2.1.trans hl.1.symm) F.2.2.2.1 (kw137 F.kd) (kw138 F.kd) (kw14 F.kd) (kw139 F.kd) (Nat.le_of_ble_eq_true rfl) (Nat.le_of_ble_eq_true rfl) (Nat.zero_le _) (Nat.zero_le _) dX1_isSeen_92 ?_
          refine lv_topi (fun x48 ex48 => ?_)
          have h := mlet_n h ex48
          refine lv_istore (lv' := [(7, .int x48), (6, .int 4), (5, .int x10), (4, .int x9), (3, .int x7), (0, .ref (g a0)), (1, .ref (g a1)), (2, .ref (g a2))]) hx hb dX1_isSeen_95 hl (by decide) rfl (fun ls hl => ?_)
          refine lv_iload hx hb dX1_isSeen_97 (lv_at hl 3 rfl) ?_
          refine lv_if_ne (tgt := 106) hx hb dX1_isSeen_99 (by decide) (fun c49 => ?_) (fun c49 => ?_)
          · have h := ite_f h c49
            refine lv_bipush (v := 12) hx hb dX1_isSeen_106 (by decide) ?_
            refine lv_istore (lv' := [(8, .int 12), (7, .int x48), (6, .int 4), (5, .int x10), (4, .int x9), (3, .int x7), (0, .ref (g a0)), (1, .ref (g a1)), (2, .ref (g a2))]) hx hb dX1_isSeen_108 hl (by decide) rfl (fun ls hl => ?_)
            refine lv_iconst (v := 1) hx hb dX1_isSeen_110 (by decide) ?_
            refine lv_istore (lv' := [(9, .int 1), (8, .int 12), (7, .int x48), (6, .int 4), (5, .int x10), (4, .int x9), (3, .int x7), (0, .ref (g a0)), (1, .ref (g a1)), (2, .ref (g a2))]) hx hb dX1_isSeen_111 hl (by decide) rfl (fun ls hl => ?_)
            obtain ⟨o50, ho51, h⟩ := cb1_e h
            refine m_X1_isSeen_L113_w (out := o50) F ha0 ?_ ?_ _ _ ho51 _ _ _ hG (lv_sub hl [7, 4, 2, 1, 0] rfl)
            · intro H locs ls eo hG hl
              subst o50
              have h := se_l h
              refine lv_iconst (v := 1) hx hb dX1_isSeen_146 (by decide) ?_
              obtain rfl := som1 h
              exact end_z F hr hlk (by decide) hG dX1_isSeen_147
            · intro H locs ls eo hG hl
              subst o50
              have h := se_r h
              refine lv_iconst (v := 0) hx hb dX1_isSeen_138 (by decide) ?_
              obtain rfl := som1 h
              exact end_z F hr hlk (by decide) hG dX1_isSeen_139
          · have h := ite_t h c49
            refine lv_iconst (v := 1) hx hb dX1_isSeen_102 (by decide) ?_
            refine lv_goto (tgt := 108) hx hb dX1_isSeen_103 (by decide) ?_
            refine lv_istore (lv' := [(8, .int 1), (7, .int x48), (6, .int 4), (5, .int x10), (4, .int x9), (3, .int x7), (0, .ref (g a0)), (1, .ref (g a1)), (2, .ref (g a2))]) hx hb dX1_isSeen_108 hl (by decide) rfl (fun ls hl => ?_)
            refine lv_iconst (v := 1) hx hb dX1_isSeen_110 (by decide) ?_
            refine lv_istore (lv' := [(9, .int 1), (8, .int 1), (7, .int x48), (6, .int 4), (5, .int x10), (4, .int x9), (3, .int x7), (0, .ref (g a0)), (1, .ref (g a1)), (2, .ref (g a2))]) hx hb dX1_isSeen_111 hl (by decide) rfl (fun ls hl => ?_)
            obtain ⟨o52, ho53, h⟩ := cb1_e h
            refine m_X1_isSeen_L113_w (out := o52) F ha0 ?_ ?_ _ _ ho53 _ _ _ hG (lv_sub hl [7, 4, 2, 1, 0] rfl)
            · intro H locs ls eo hG hl
              subst o52
              have h := se_l h
              refine lv_iconst (v := 1) hx hb dX1_isSeen_146 (by decide) ?_
              obtain rfl := som1 h
              exact end_z F hr hlk (by decide) hG dX1_isSeen_147
            · intro H locs ls eo hG hl
              subst o52
              have h := se_r h
              refine lv_iconst (v := 0) hx hb dX1_isSeen_138 (by decide) ?_
              obtain rfl := som1 h
              exact end_z F hr hlk (by decide) hG dX1_isSeen_139
        · have h := ite_f h c45
          refine lv_iconst (v := 0) hx hb dX1_isSeen_82 (by decide) ?_
          obtain rfl := som1 h
          exact end_z F hr hlk (by decide) hG dX1_isSeen_83
      · have h := ite_f h c44
        refine lv_iload hx hb dX1_isSeen_70 (lv_at hl 2 rfl) ?_
        refine lv_if_gt (tgt := 82) hx hb dX1_isSeen_72 (by decide) (fun c54 => ?_) (fun c54 => ?_)
        · have h := ite_t h c54
          refine lv_iconst (v := 0) hx hb dX1_isSeen_82 (by decide) ?_
          obtain rfl := som1 h
          exact end_z F hr hlk (by decide) hG dX1_isSeen_83
        · have h := ite_f h c54
          refine lv_iload hx hb dX1_isSeen_75 (lv_at hl 1 rfl) ?_
          refine lv_iload hx hb dX1_isSeen_77 (lv_at hl 0 rfl) ?_
          refine lv_icmp_le (tgt := 84) hx hb dX1_isSeen_79 (by decide) (fun c55 => ?_) (fun c55 => ?_)
          · have h := ite_t h c55
            refine lv_aload_n hx hb dX1_isSeen_84 rfl (lv_at hl 6 rfl) ?_
            refine xg0N F hG ha2 0 (by decide) (kw418 F.kd) (v := .int (M a2 0)) rfl dX1_isSeen_85 ?_
            refine lv_aload_n hx hb dX1_isSeen_88 rfl (lv_at hl 5 rfl) ?_
            refine xg2N F hG ha1 0 (by decide) (kw451 F.kd) (v := .int (M a1 0)) rfl dX1_isSeen_89 ?_
            obtain ⟨x56, ex56, h⟩ := mlet_e h
            rw [← ex56]
            obtain ⟨x57, ex57, h⟩ := mlet_e h
            rw [← ex57]
            refine va_mmin hx hb (F.2.2.1.trans hl.1.symm) F.2.2.2.1 (kw137 F.kd) (kw138 F.kd) (kw14 F.kd) (kw139 F.kd) (Nat.le_of_ble_eq_true rfl) (Nat.le_of_ble_eq_true rfl) (Nat.zero_le _) (Nat.zero_le _) dX1_isSeen_92 ?_
            refine lv_topi (fun x58 ex58 => ?_)
            have h := mlet_n h ex58
            refine lv_istore (lv' := [(7, .int x58), (6, .int 4), (5, .int x10), (4, .int x9), (3, .int x7), (0, .ref (g a0)), (1, .ref (g a1)), (2, .ref (g a2))]) hx hb dX1_isSeen_95 hl (by decide) rfl (fun ls hl => ?_)
            refine lv_iload hx hb dX1_isSeen_97 (lv_at hl 3 rfl) ?_
            refine lv_if_ne (tgt := 106) hx hb dX1_isSeen_99 (by decide) (fun c59 => ?_) (fun c59 => ?_)
            · have h := ite_f h c59
              refine lv_bipush (v := 12) hx hb dX1_isSeen_106 (by decide) ?_
              refine lv_istore (lv' := [(8, .int 12), (7, .int x58), (6, .int 4), (5, .int x10), (4, .int x9), (3, .int x7), (0, .ref (g a0)), (1, .ref (g a1)), (2, .ref (g a2))]) hx hb dX1_isSeen_108 hl (by decide) rfl (fun ls hl => ?_)
              refine lv_iconst (v := 1) hx hb dX1_isSeen_110 (by decide) ?_
              refine lv_istore (lv' := [(9, .int 1), (8, .int 12), (7, .int x58), (6, .int 4), (5, .int x10), (4, .int x9), (3, .int x7), (0, .ref (g a0)), (1, .ref (g a1)), (2, .ref (g a2))]) hx hb dX1_isSeen_111 hl (by decide) rfl (fun ls hl => ?_)
              obtain ⟨o60, ho61, h⟩ := cb1_e h
              refine m_X1_isSeen_L113_w (out := o60) F ha0 ?_ ?_ _ _ ho61 _ _ _ hG (lv_sub hl [7, 4, 2, 1, 0] rfl)
              · intro H locs ls eo hG hl
                subst o60
                have h := se_l h
                refine lv_iconst (v := 1) hx hb dX1_isSeen_146 (by decide) ?_
                obtain rfl := som1 h
                exact end_z F hr hlk (by decide) hG dX1_isSeen_147
              · intro H locs ls eo hG hl
                subst o60
                have h := se_r h
                refine lv_iconst (v := 0) hx hb dX1_isSeen_138 (by decide) ?_
                obtain rfl := som1 h
                exact end_z F hr hlk (by decide) hG dX1_isSeen_139
            · have h := ite_t h c59
              refine lv_iconst (v := 1) hx hb dX1_isSeen_102 (by decide) ?_
              refine lv_goto (tgt := 108) hx hb dX1_isSeen_103 (by decide) ?_
              refine lv_istore (lv' := [(8, .int 1), (7, .int x58), (6, .int 4), (5, .int x10), (4, .int x9), (3, .int x7), (0, .ref (g a0)), (1, .ref (g a1)), (2, .ref (g a2))]) hx hb dX1_isSeen_108 hl (by decide) rfl (fun ls hl => ?_)
              refine lv_iconst (v := 1) hx hb dX1_isSeen_110 (by decide) ?_
              refine lv_istore (lv' := [(9, .int 1), (8, .int 1), (7, .int x58), (6, .int 4), (5, .int x10), (4, .int x9), (3, .int x7), (0, .ref (g a0)), (1, .ref (g a1)), (2, .ref (g a2))]) hx hb dX1_isSeen_111 hl (by decide) rfl (fun ls hl => ?_)
              obtain ⟨o62, ho63, h⟩ := cb1_e h
              refine m_X1_isSeen_L113_w (out := o62) F ha0 ?_ ?_ _ _ ho63 _ _ _ hG (lv_sub hl [7, 4, 2, 1, 0] rfl)
              · intro H locs ls eo hG hl
                subst o62
                have h := se_l h
                refine lv_iconst (v := 1) hx hb dX1_isSeen_146 (by decide) ?_
                obtain rfl := som1 h
                exact end_z F hr hlk (by decide) hG dX1_isSeen_147
              · intro H locs ls eo hG hl
                subst o62
                have h := se_r h
                refine lv_iconst (v := 0) hx hb dX1_isSeen_138 (by decide) ?_
                obtain rfl := som1 h
                exact end_z F hr hlk (by decide) hG dX1_isSeen_139
          · have h := ite_f h c55
            refine lv_iconst (v := 0) hx hb dX1_isSeen_82 (by decide) ?_
            obtain rfl := som1 h
            exact end_z F hr hlk (by decide) hG dX1_isSeen_83
set_option maxHeartbeats 4000000 in
set_option maxRecDepth 100000 in
theorem m_X1_patrolsThatSee_L4_w {p : Program} {l : Launch} {e : Env} {s : State} {m : MethodId} {args : Array Value} {below : List Frame} {meth : Method} {c : Code} {Q : State → Prop} {D : va_G} {ca : vCA} {g : Nat → Nat} {fu : Nat} {M : Mem} {q0 : Nat} {q1 : Nat} {out : Int32} (F : FX p m c cX1_patrolsThatSee 4 s D ca g RX1) (hq0 : kd q0 = 1) (hq1 : kd q1 = 0)
    (K0 : ∀ (u2 : Int32) (H : Heap) (locs : List Loc) (ls : Array Slot), out = u2 → GW D ca g s M H locs → lv_has ls 4 [(2, .int u2)] → W p l e ({ frames := 2, cells := 0, slots := 0, locals := 50 }) s m args below meth c H locs 0 0 Q (F0 m 35 ls [])) :
    ∀ (n : Nat) (z2 : Int32) (z3 : Int32), m_X1_patrolsThatSee_L4 fu M q0 q1 n z2 z3 = some out → ∀ (H : Heap) (locs : List Loc) (ls : Array Slot), GW D ca g s M H locs → lv_has ls 4 [(0, .ref (g q0)), (1, .ref (g q1)), (2, .int z2), (3, .int z3)] → W p l e ({ frames := 2, cells := 0, slots := 0, locals := 50 }) s m args below meth c H locs 0 0 Q (F0 m 4 ls []) := by
  have hx := F.1
  have hb := F.2.1
  intro n
  induction n with
  | zero =>
    intro z2 z3 h
    exact absurd h (by simp [m_X1_patrolsThatSee_L4])
  | succ n ih =>
    intro z2 z3 h H locs ls hG hl
    rw [m_X1_patrolsThatSee_L4] at h
    refine lv_iload_n hx hb dX1_patrolsThatSee_4 rfl (lv_at hl 3 rfl) ?_
    refine lv_aload_n hx hb dX1_patrolsThatSee_5 rfl (lv_at hl 0 rfl) ?_
    refine xg1 F hG hq0 4 (by decide) (kw474 F.kd) (v := .int (M q0 4)) rfl dX1_patrolsThatSee_6 ?_
    refine lv_icmp_ge (tgt := 35) hx hb dX1_patrolsThatSee_9 (by decide) (fun c3 => ?_) (fun c3 => ?_)
    · have h := ite_t h c3
      exact K0 _ _ _ _ (som1 h).symm hG (lv_sub hl [2] rfl)
    · have h := ite_f h c3
      refine lv_aload_n hx hb dX1_patrolsThatSee_12 rfl (lv_at hl 0 rfl) ?_
      refine lv_aload_n hx hb dX1_patrolsThatSee_13 rfl (lv_at hl 0 rfl) ?_
      have hk4 := kt_patrols hq0
      refine xg1 F hG hq0 3 (by decide) (kw472 F.kd) (v := .ref (g (q0 + 4))) rfl dX1_patrolsThatSee_14 ?_
      refine lv_iload_n hx hb dX1_patrolsThatSee_17 rfl (lv_at hl 3 rfl) ?_
      obtain ⟨hi5, h⟩ := chk_e h
      have hk6 := kt_elP hk4 hi5
      refine r_aldP F hG hk4 hi5 dX1_patrolsThatSee_18 ?_
      refine lv_aload_n hx hb dX1_patrolsThatSee_19 rfl (lv_at hl 1 rfl) ?_
      obtain ⟨r8, hc7, h⟩ := cb1_e h
      refine k_i (r_runV F hG (c_X1_isSeen l D ca g hq0 hk6 hq1 hc7) (kd_lt hq0 (by decide)) (gd1 hq0) rfl (kw126 F.kd) (kw128 F.kd) (ks_X1_isSeen F.kd) (kw2 F.kd) (kw129 F.kd) yd_X1_isSeen ⟨Nat.le_of_ble_eq_true rfl, Nat.le_of_ble_eq_true rfl⟩ rfl hl.1 rfl (Nat.le_of_ble_eq_true rfl) dX1_patrolsThatSee_20 ⟨Nat.le_of_ble_eq_true rfl, Nat.le_of_ble_eq_true rfl⟩) hG (fun H locs hG => ?_)
      refine lv_if_eq (tgt := 29) hx hb dX1_patrolsThatSee_23 (by decide) (fun c9 => ?_) (fun c9 => ?_)
      · have h := ite_t h c9
        obtain ⟨x10, ex10, h⟩ := mlet_e h
        refine lv_iinc (v := x10) (lv' := [(3, .int x10), (0, .ref (g q0)), (1, .ref (g q1)), (2, .int z2)]) hx hb dX1_patrolsThatSee_29 hl (k := 3) rfl (by rw [ex10]; rfl) (by decide) rfl (fun ls hl => ?_)
        refine lv_goto (tgt := 4) hx hb dX1_patrolsThatSee_32 (by decide) ?_
        exact ih z2 x10 h _ _ _ hG (lv_sub hl [1, 2, 3, 0] rfl)
      · have h := ite_f h c9
        obtain ⟨x11, ex11, h⟩ := mlet_e h
        refine lv_iinc (v := x11) (lv' := [(2, .int x11), (0, .ref (g q0)), (1, .ref (g q1)), (3, .int z3)]) hx hb dX1_patrolsThatSee_26 hl (k := 2) rfl (by rw [ex11]; rfl) (by decide) rfl (fun ls hl => ?_)
        obtain ⟨x12, ex12, h⟩ := mlet_e h
        refine lv_iinc (v := x12) (lv' := [(3, .int x12), (2, .int x11), (0, .ref (g q0)), (1, .ref (g q1))]) hx hb dX1_patrolsThatSee_29 hl (k := 3) rfl (by rw [ex12]; rfl) (by decide) rfl (fun ls hl => ?_)
        refine lv_goto (tgt := 4) hx hb dX1_patrolsThatSee_32 (by decide) ?_
        exact ih x11 x12 h _ _ _ hG (lv_sub hl [2, 3, 1, 0] rfl)
set_option maxHeartbeats 4000000 in
set_option maxRecDepth 100000 in
theorem c_X1_patrolsThatSee (l : Launch) (D : va_G) (ca : vCA) (g : Nat → Nat) {fu : Nat} {M : Mem} {a0 : Nat} {a1 : Nat} {r : Int32} (ha0 : kd a0 = 1) (ha1 : kd a1 = 0) (h : m_X1_patrolsThatSee fu M a0 a1 = some r) : cM l yX1_patrolsThatSee cX1_patrolsThatSee 4 (some .int) { frames := 2, cells := 0, slots := 0, locals := 50 } D ca g M [.ref (g a0), .ref (g a1)] (fun sz => cQi D ca g sz M r) := by
  refine mk_Met (by decide) (Nat.le_of_ble_eq_true rfl) ?_
  intro p e s m below meth c F hr hlk hnm hG ls hl
  have hx := F.1
  have hb := F.2.1
  replace hl : lv_has ls 4 [(0, .ref (g a0)), (1, .ref (g a1))] := hl
  unfold m_X1_patrolsThatSee at h
  refine lv_iconst (v := 0) hx hb dX1_patrolsThatSee_0 (by decide) ?_
  refine lv_istore_n (lv' := [(2, .int 0), (0, .ref (g a0)), (1, .ref (g a1))]) hx hb dX1_patrolsThatSee_1 rfl hl (by decide) rfl (fun ls hl => ?_)
  refine lv_iconst (v := 0) hx hb dX1_patrolsThatSee_2 (by decide) ?_
  refine lv_istore_n (lv' := [(3, .int 0), (2, .int 0), (0, .ref (g a0)), (1, .ref (g a1))]) hx hb dX1_patrolsThatSee_3 rfl hl (by decide) rfl (fun ls hl => ?_)
  obtain ⟨o13, ho14, h⟩ := cb1_e h
  refine m_X1_patrolsThatSee_L4_w (out := o13) F ha0 ha1 ?_ _ _ _ ho14 _ _ _ hG (lv_sub hl [2, 3, 1, 0] rfl)
  · intro x15 H locs ls eo hG hl
    subst o13
    refine lv_iload_n hx hb dX1_patrolsThatSee_35 rfl (lv_at hl 0 rfl) ?_
    obtain rfl := som1 h
    exact end_i F hr hlk hG dX1_patrolsThatSee_36
set_option maxHeartbeats 4000000 in
set_option maxRecDepth 100000 in
theorem m_X1_crowdsSeenBy_L4_w {p : Program} {l : Launch} {e : Env} {s : State} {m : MethodId} {args : Array Value} {below : List Frame} {meth : Method} {c : Code} {Q : State → Prop} {D : va_G} {ca : vCA} {g : Nat → Nat} {fu : Nat} {M : Mem} {q0 : Nat} {q1 : Nat} {out : Int32} (F : FX p m c cX1_crowdsSeenBy 4 s D ca g RX1) (hq0 : kd q0 = 1) (hq1 : kd q1 = 2)
    (K0 : ∀ (u2 : Int32) (H : Heap) (locs : List Loc) (ls : Array Slot), out = u2 → GW D ca g s M H locs → lv_has ls 4 [(2, .int u2)] → W p l e ({ frames := 2, cells := 0, slots := 0, locals := 50 }) s m args below meth c H locs 0 0 Q (F0 m 35 ls [])) :
    ∀ (n : Nat) (z2 : Int32) (z3 : Int32), m_X1_crowdsSeenBy_L4 fu M q0 q1 n z2 z3 = some out → ∀ (H : Heap) (locs : List Loc) (ls : Array Slot), GW D ca g s M H locs → lv_has ls 4 [(0, .ref (g q0)), (1, .ref (g q1)), (2, .int z2), (3, .int z3)] → W p l e ({ frames := 2, cells := 0, slots := 0, locals := 50 }) s m args below meth c H locs 0 0 Q (F0 m 4 ls []) := by
  have hx := F.1
  have hb := F.2.1
  intro n
  induction n with
  | zero =>
    intro z2 z3 h
    exact absurd h (by simp [m_X1_crowdsSeenBy_L4])
  | succ n ih =>
    intro z2 z3 h H locs ls hG hl
    rw [m_X1_crowdsSeenBy_L4] at h
    refine lv_iload_n hx hb dX1_crowdsSeenBy_4 rfl (lv_at hl 3 rfl) ?_
    refine lv_aload_n hx hb dX1_crowdsSeenBy_5 rfl (lv_at hl 0 rfl) ?_
    refine xg1 F hG hq0 2 (by decide) (kw470 F.kd) (v := .int (M q0 2)) rfl dX1_crowdsSeenBy_6 ?_
    refine lv_icmp_ge (tgt := 35) hx hb dX1_crowdsSeenBy_9 (by decide) (fun c3 => ?_) (fun c3 => ?_)
    · have h := ite_t h c3
      exact K0 _ _ _ _ (som1 h).symm hG (lv_sub hl [2] rfl)
    · have h := ite_f h c3
      refine lv_aload_n hx hb dX1_crowdsSeenBy_12 rfl (lv_at hl 0 rfl) ?_
      refine lv_aload_n hx hb dX1_crowdsSeenBy_13 rfl (lv_at hl 1 rfl) ?_
      refine lv_aload_n hx hb dX1_crowdsSeenBy_14 rfl (lv_at hl 0 rfl) ?_
      have hk4 := kt_crowds hq0
      refine xg1 F hG hq0 1 (by decide) (kw468 F.kd) (v := .ref (g (q0 + 3))) rfl dX1_crowdsSeenBy_15 ?_
      refine lv_iload_n hx hb dX1_crowdsSeenBy_18 rfl (lv_at hl 3 rfl) ?_
      obtain ⟨hi5, h⟩ := chk_e h
      have hk6 := kt_elC hk4 hi5
      refine r_aldC F hG hk4 hi5 dX1_crowdsSeenBy_19 ?_
      obtain ⟨r8, hc7, h⟩ := cb1_e h
      refine k_i (r_runV F hG (c_X1_isSeen l D ca g hq0 hq1 hk6 hc7) (kd_lt hq0 (by decide)) (gd1 hq0) rfl (kw126 F.kd) (kw128 F.kd) (ks_X1_isSeen F.kd) (kw2 F.kd) (kw129 F.kd) yd_X1_isSeen ⟨Nat.le_of_ble_eq_true rfl, Nat.le_of_ble_eq_true rfl⟩ rfl hl.1 rfl (Nat.le_of_ble_eq_true rfl) dX1_crowdsSeenBy_20 ⟨Nat.le_of_ble_eq_true rfl, Nat.le_of_ble_eq_true rfl⟩) hG (fun H locs hG => ?_)
      refine lv_if_eq (tgt := 29) hx hb dX1_crowdsSeenBy_23 (by decide) (fun c9 => ?_) (fun c9 => ?_)
      · have h := ite_t h c9
        obtain ⟨x10, ex10, h⟩ := mlet_e h
        refine lv_iinc (v := x10) (lv' := [(3, .int x10), (0, .ref (g q0)), (1, .ref (g q1)), (2, .int z2)]) hx hb dX1_crowdsSeenBy_29 hl (k := 3) rfl (by rw [ex10]; rfl) (by decide) rfl (fun ls hl => ?_)
        refine lv_goto (tgt := 4) hx hb dX1_crowdsSeenBy_32 (by decide) ?_
        exact ih z2 x10 h _ _ _ hG (lv_sub hl [1, 2, 3, 0] rfl)
      · have h := ite_f h c9
        obtain ⟨x11, ex11, h⟩ := mlet_e h
        refine lv_iinc (v := x11) (lv' := [(2, .int x11), (0, .ref (g q0)), (1, .ref (g q1)), (3, .int z3)]) hx hb dX1_crowdsSeenBy_26 hl (k := 2) rfl (by rw [ex11]; rfl) (by decide) rfl (fun ls hl => ?_)
        obtain ⟨x12, ex12, h⟩ := mlet_e h
        refine lv_iinc (v := x12) (lv' := [(3, .int x12), (2, .int x11), (0, .ref (g q0)), (1, .ref (g q1))]) hx hb dX1_crowdsSeenBy_29 hl (k := 3) rfl (by rw [ex12]; rfl) (by decide) rfl (fun ls hl => ?_)
        refine lv_goto (tgt := 4) hx hb dX1_crowdsSeenBy_32 (by decide) ?_
        exact ih x11 x12 h _ _ _ hG (lv_sub hl [2, 3, 1, 0] rfl)
set_option maxHeartbeats 4000000 in
set_option maxRecDepth 100000 in
theorem c_X1_crowdsSeenBy (l : Launch) (D : va_G) (ca : vCA) (g : Nat → Nat) {fu : Nat} {M : Mem} {a0 : Nat} {a1 : Nat} {r : Int32} (ha0 : kd a0 = 1) (ha1 : kd a1 = 2) (h : m_X1_crowdsSeenBy fu M a0 a1 = some r) : cM l yX1_crowdsSeenBy cX1_crowdsSeenBy 4 (some .int) { frames := 2, cells := 0, slots := 0, locals := 50 } D ca g M [.ref (g a0), .ref (g a1)] (fun sz => cQi D ca g sz M r) := by
  refine mk_Met (by decide) (Nat.le_of_ble_eq_true rfl) ?_
  intro p e s m below meth c F hr hlk hnm hG ls hl
  have hx := F.1
  have hb := F.2.1
  replace hl : lv_has ls 4 [(0, .ref (g a0)), (1, .ref (g a1))] := hl
  unfold m_X1_crowdsSeenBy at h
  refine lv_iconst (v := 0) hx hb dX1_crowdsSeenBy_0 (by decide) ?_
  refine lv_istore_n (lv' := [(2, .int 0), (0, .ref (g a0)), (1, .ref (g a1))]) hx hb dX1_crowdsSeenBy_1 rfl hl (by decide) rfl (fun ls hl => ?_)
  refine lv_iconst (v := 0) hx hb dX1_crowdsSeenBy_2 (by decide) ?_
  refine lv_istore_n (lv' := [(3, .int 0), (2, .int 0), (0, .ref (g a0)), (1, .ref (g a1))]) hx hb dX1_crowdsSeenBy_3 rfl hl (by decide) rfl (fun ls hl => ?_)
  obtain ⟨o13, ho14, h⟩ := cb1_e h
  refine m_X1_crowdsSeenBy_L4_w (out := o13) F ha0 ha1 ?_ _ _ _ ho14 _ _ _ hG (lv_sub hl [2, 3, 1, 0] rfl)
  · intro x15 H locs ls eo hG hl
    subst o13
    refine lv_iload_n hx hb dX1_crowdsSeenBy_35 rfl (lv_at hl 0 rfl) ?_
    obtain rfl := som1 h
    exact end_i F hr hlk hG dX1_crowdsSeenBy_36
set_option maxHeartbeats 4000000 in
set_option maxRecDepth 100000 in
theorem m_X1_crowdsLeft_L4_w {p : Program} {l : Launch} {e : Env} {s : State} {m : MethodId} {args : Array Value} {below : List Frame} {meth : Method} {c : Code} {Q : State → Prop} {D : va_G} {ca : vCA} {g : Nat → Nat} {fu : Nat} {M : Mem} {q0 : Nat} {out : Int32} (F : FX p m c cX1_crowdsLeft 3 s D ca g RX1) (hq0 : kd q0 = 1)
    (K0 : ∀ (u1 : Int32) (H : Heap) (locs : List Loc) (ls : Array Slot), out = u1 → GW D ca g s M H locs → lv_has ls 3 [(1, .int u1)] → W p l e ({ frames := 1, cells := 0, slots := 0, locals := 20 }) s m args below meth c H locs 0 0 Q (F0 m 33 ls [])) :
    ∀ (n : Nat) (z1 : Int32) (z2 : Int32), m_X1_crowdsLeft_L4 fu M q0 n z1 z2 = some out → ∀ (H : Heap) (locs : List Loc) (ls : Array Slot), GW D ca g s M H locs → lv_has ls 3 [(0, .ref (g q0)), (1, .int z1), (2, .int z2)] → W p l e ({ frames := 1, cells := 0, slots := 0, locals := 20 }) s m args below meth c H locs 0 0 Q (F0 m 4 ls []) := by
  have hx := F.1
  have hb := F.2.1
  intro n
  induction n with
  | zero =>
    intro z1 z2 h
    exact absurd h (by simp [m_X1_crowdsLeft_L4])
  | succ n ih =>
    intro z1 z2 h H locs ls hG hl
    rw [m_X1_crowdsLeft_L4] at h
    refine lv_iload_n hx hb dX1_crowdsLeft_4 rfl (lv_at hl 2 rfl) ?_
    refine lv_aload_n hx hb dX1_crowdsLeft_5 rfl (lv_at hl 0 rfl) ?_
    refine xg1 F hG hq0 2 (by decide) (kw470 F.kd) (v := .int (M q0 2)) rfl dX1_crowdsLeft_6 ?_
    refine lv_icmp_ge (tgt := 33) hx hb dX1_crowdsLeft_9 (by decide) (fun c2 => ?_) (fun c2 => ?_)
    · have h := ite_t h c2
      exact K0 _ _ _ _ (som1 h).symm hG (lv_sub hl [1] rfl)
    · have h := ite_f h c2
      refine lv_aload_n hx hb dX1_crowdsLeft_12 rfl (lv_at hl 0 rfl) ?_
      have hk3 := kt_crowds hq0
      refine xg1 F hG hq0 1 (by decide) (kw468 F.kd) (v := .ref (g (q0 + 3))) rfl dX1_crowdsLeft_13 ?_
      refine lv_iload_n hx hb dX1_crowdsLeft_16 rfl (lv_at hl 2 rfl) ?_
      obtain ⟨hi4, h⟩ := chk_e h
      have hk5 := kt_elC hk3 hi4
      refine r_aldC F hG hk3 hi4 dX1_crowdsLeft_17 ?_
      obtain ⟨r7, hc6, h⟩ := cb1_e h
      refine k_i (r_runVN F hG (c_X0_isScattered l D ca g hk5 hc6) (kd_lt hk5 (by decide)) (gd0 hk5) rfl (kw133 F.kd) (kw135 F.kd) (ks_X0_isScattered F.kd) (kw4 F.kd) (kw136 F.kd) yd_X0_isScattered ⟨Nat.le_of_ble_eq_true rfl, Nat.le_of_ble_eq_true rfl⟩ rfl hl.1 rfl (Nat.le_of_ble_eq_true rfl) dX1_crowdsLeft_18 ⟨Nat.le_of_ble_eq_true rfl, Nat.le_of_ble_eq_true rfl⟩) hG (fun H locs hG => ?_)
      refine lv_if_ne (tgt := 27) hx hb dX1_crowdsLeft_21 (by decide) (fun c8 => ?_) (fun c8 => ?_)
      · have h := ite_f h c8
        obtain ⟨x9, ex9, h⟩ := mlet_e h
        refine lv_iinc (v := x9) (lv' := [(2, .int x9), (0, .ref (g q0)), (1, .int z1)]) hx hb dX1_crowdsLeft_27 hl (k := 2) rfl (by rw [ex9]; rfl) (by decide) rfl (fun ls hl => ?_)
        refine lv_goto (tgt := 4) hx hb dX1_crowdsLeft_30 (by decide) ?_
        exact ih z1 x9 h _ _ _ hG (lv_sub hl [1, 2, 0] rfl)
      · have h := ite_t h c8
        obtain ⟨x10, ex10, h⟩ := mlet_e h
        refine lv_iinc (v := x10) (lv' := [(1, .int x10), (0, .ref (g q0)), (2, .int z2)]) hx hb dX1_crowdsLeft_24 hl (k := 1) rfl (by rw [ex10]; rfl) (by decide) rfl (fun ls hl => ?_)
        obtain ⟨x11, ex11, h⟩ := mlet_e h
        refine lv_iinc (v := x11) (lv' := [(2, .int x11), (1, .int x10), (0, .ref (g q0))]) hx hb dX1_crowdsLeft_27 hl (k := 2) rfl (by rw [ex11]; rfl) (by decide) rfl (fun ls hl => ?_)
        refine lv_goto (tgt := 4) hx hb dX1_crowdsLeft_30 (by decide) ?_
        exact ih x10 x11 h _ _ _ hG (lv_sub hl [2, 1, 0] rfl)
set_option maxHeartbeats 4000000 in
set_option maxRecDepth 100000 in
theorem c_X1_crowdsLeft (l : Launch) (D : va_G) (ca : vCA) (g : Nat → Nat) {fu : Nat} {M : Mem} {a0 : Nat} {r : Int32} (ha0 : kd a0 = 1) (h : m_X1_crowdsLeft fu M a0 = some r) : cM l yX1_crowdsLeft cX1_crowdsLeft 3 (some .int) { frames := 1, cells := 0, slots := 0, locals := 20 } D ca g M [.ref (g a0)] (fun sz => cQi D ca g sz M r) := by
  refine mk_Met (by decide) (Nat.le_of_ble_eq_true rfl) ?_
  intro p e s m below meth c F hr hlk hnm hG ls hl
  have hx := F.1
  have hb := F.2.1
  replace hl : lv_has ls 3 [(0, .ref (g a0))] := hl
  unfold m_X1_crowdsLeft at h
  refine lv_iconst (v := 0) hx hb dX1_crowdsLeft_0 (by decide) ?_
  refine lv_istore_n (lv' := [(1, .int 0), (0, .ref (g a0))]) hx hb dX1_crowdsLeft_1 rfl hl (by decide) rfl (fun ls hl => ?_)
  refine lv_iconst (v := 0) hx hb dX1_crowdsLeft_2 (by decide) ?_
  refine lv_istore_n (lv' := [(2, .int 0), (1, .int 0), (0, .ref (g a0))]) hx hb dX1_crowdsLeft_3 rfl hl (by decide) rfl (fun ls hl => ?_)
  obtain ⟨o12, ho13, h⟩ := cb1_e h
  refine m_X1_crowdsLeft_L4_w (out := o12) F ha0 ?_ _ _ _ ho13 _ _ _ hG (lv_sub hl [2, 1, 0] rfl)
  · intro x14 H locs ls eo hG hl
    subst o12
    refine lv_iload_n hx hb dX1_crowdsLeft_33 rfl (lv_at hl 0 rfl) ?_
    obtain rfl := som1 h
    exact end_i F hr hlk hG dX1_crowdsLeft_34
set_option maxHeartbeats 4000000 in
set_option maxRecDepth 100000 in
theorem m_X1_peopleLeft_L4_w {p : Program} {l : Launch} {e : Env} {s : State} {m : MethodId} {args : Array Value} {below : List Frame} {meth : Method} {c : Code} {Q : State → Prop} {D : va_G} {ca : vCA} {g : Nat → Nat} {fu : Nat} {M : Mem} {q0 : Nat} {out : Int32} (F : FX p m c cX1_peopleLeft 3 s D ca g RX1) (hq0 : kd q0 = 1)
    (K0 : ∀ (u1 : Int32) (H : Heap) (locs : List Loc) (ls : Array Slot), out = u1 → GW D ca g s M H locs → lv_has ls 3 [(1, .int u1)] → W p l e ({ frames := 0, cells := 0, slots := 0, locals := 0 }) s m args below meth c H locs 0 0 Q (F0 m 30 ls [])) :
    ∀ (n : Nat) (z1 : Int32) (z2 : Int32), m_X1_peopleLeft_L4 fu M q0 n z1 z2 = some out → ∀ (H : Heap) (locs : List Loc) (ls : Array Slot), GW D ca g s M H locs → lv_has ls 3 [(0, .ref (g q0)), (1, .int z1), (2, .int z2)] → W p l e ({ frames := 0, cells := 0, slots := 0, locals := 0 }) s m args below meth c H locs 0 0 Q (F0 m 4 ls []) := by
  have hx := F.1
  have hb := F.2.1
  intro n
  induction n with
  | zero =>
    intro z1 z2 h
    exact absurd h (by simp [m_X1_peopleLeft_L4])
  | succ n ih =>
    intro z1 z2 h H locs ls hG hl
    rw [m_X1_peopleLeft_L4] at h
    refine lv_iload_n hx hb dX1_peopleLeft_4 rfl (lv_at hl 2 rfl) ?_
    refine lv_aload_n hx hb dX1_peopleLeft_5 rfl (lv_at hl 0 rfl) ?_
    refine xg1 F hG hq0 2 (by decide) (kw470 F.kd) (v := .int (M q0 2)) rfl dX1_peopleLeft_6 ?_
    refine lv_icmp_ge (tgt := 30) hx hb dX1_peopleLeft_9 (by decide) (fun c2 => ?_) (fun c2 => ?_)
    · have h := ite_t h c2
      exact K0 _ _ _ _ (som1 h).symm hG (lv_sub hl [1] rfl)
    · have h := ite_f h c2
      refine lv_iload_n hx hb dX1_peopleLeft_12 rfl (lv_at hl 1 rfl) ?_
      refine lv_aload_n hx hb dX1_peopleLeft_13 rfl (lv_at hl 0 rfl) ?_
      have hk3 := kt_crowds hq0
      refine xg1 F hG hq0 1 (by decide) (kw468 F.kd) (v := .ref (g (q0 + 3))) rfl dX1_peopleLeft_14 ?_
      refine lv_iload_n hx hb dX1_peopleLeft_17 rfl (lv_at hl 2 rfl) ?_
      obtain ⟨hi4, h⟩ := chk_e h
      have hk5 := kt_elC hk3 hi4
      refine r_aldC F hG hk3 hi4 dX1_peopleLeft_18 ?_
      refine xg0N F hG hk5 1 (by decide) (kw421 F.kd) (v := .int (M (elC (q0 + 3) z2) 1)) rfl dX1_peopleLeft_19 ?_
      refine lv_iadd hx hb dX1_peopleLeft_22 ?_
      refine lv_topi (fun x6 ex6 => ?_)
      have h := mlet_n h ex6
      refine lv_istore_n (lv' := [(1, .int x6), (0, .ref (g q0)), (2, .int z2)]) hx hb dX1_peopleLeft_23 rfl hl (by decide) rfl (fun ls hl => ?_)
      obtain ⟨x7, ex7, h⟩ := mlet_e h
      refine lv_iinc (v := x7) (lv' := [(2, .int x7), (1, .int x6), (0, .ref (g q0))]) hx hb dX1_peopleLeft_24 hl (k := 2) rfl (by rw [ex7]; rfl) (by decide) rfl (fun ls hl => ?_)
      refine lv_goto (tgt := 4) hx hb dX1_peopleLeft_27 (by decide) ?_
      exact ih x6 x7 h _ _ _ hG (lv_sub hl [2, 1, 0] rfl)
set_option maxHeartbeats 4000000 in
set_option maxRecDepth 100000 in
theorem c_X1_peopleLeft (l : Launch) (D : va_G) (ca : vCA) (g : Nat → Nat) {fu : Nat} {M : Mem} {a0 : Nat} {r : Int32} (ha0 : kd a0 = 1) (h : m_X1_peopleLeft fu M a0 = some r) : cM l yX1_peopleLeft cX1_peopleLeft 3 (some .int) { frames := 0, cells := 0, slots := 0, locals := 0 } D ca g M [.ref (g a0)] (fun sz => cQi D ca g sz M r) := by
  refine mk_Met (by decide) (Nat.le_of_ble_eq_true rfl) ?_
  intro p e s m below meth c F hr hlk hnm hG ls hl
  have hx := F.1
  have hb := F.2.1
  replace hl : lv_has ls 3 [(0, .ref (g a0))] := hl
  unfold m_X1_peopleLeft at h
  refine lv_iconst (v := 0) hx hb dX1_peopleLeft_0 (by decide) ?_
  refine lv_istore_n (lv' := [(1, .int 0), (0, .ref (g a0))]) hx hb dX1_peopleLeft_1 rfl hl (by decide) rfl (fun ls hl => ?_)
  refine lv_iconst (v := 0) hx hb dX1_peopleLeft_2 (by decide) ?_
  refine lv_istore_n (lv' := [(2, .int 0), (1, .int 0), (0, .ref (g a0))]) hx hb dX1_peopleLeft_3 rfl hl (by decide) rfl (fun ls hl => ?_)
  obtain ⟨o8, ho9, h⟩ := cb1_e h
  refine m_X1_peopleLeft_L4_w (out := o8) F ha0 ?_ _ _ _ ho9 _ _ _ hG (lv_sub hl [2, 1, 0] rfl)
  · intro x10 H locs ls eo hG hl
    subst o8
    refine lv_iload_n hx hb dX1_peopleLeft_30 rfl (lv_at hl 0 rfl) ?_
    obtain rfl := som1 h
    exact end_i F hr hlk hG dX1_peopleLeft_31
set_option maxHeartbeats 4000000 in
set_option maxRecDepth 100000 in
theorem m_X1_ordersMissed_L4_w {p : Program} {l : Launch} {e : Env} {s : State} {m : MethodId} {args : Array Value} {below : List Frame} {meth : Method} {c : Code} {Q : State → Prop} {D : va_G} {ca : vCA} {g : Nat → Nat} {fu : Nat} {M : Mem} {q0 : Nat} {out : Int32} (F : FX p m c cX1_ordersMissed 3 s D ca g RX1) (hq0 : kd q0 = 1)
    (K0 : ∀ (u1 : Int32) (H : Heap) (locs : List Loc) (ls : Array Slot), out = u1 → GW D ca g s M H locs → lv_has ls 3 [(1, .int u1)] → W p l e ({ frames := 0, cells := 0, slots := 0, locals := 0 }) s m args below meth c H locs 0 0 Q (F0 m 30 ls [])) :
    ∀ (n : Nat) (z1 : Int32) (z2 : Int32), m_X1_ordersMissed_L4 fu M q0 n z1 z2 = some out → ∀ (H : Heap) (locs : List Loc) (ls : Array Slot), GW D ca g s M H locs → lv_has ls 3 [(0, .ref (g q0)), (1, .int z1), (2, .int z2)] → W p l e ({ frames := 0, cells := 0, slots := 0, locals := 0 }) s m args below meth c H locs 0 0 Q (F0 m 4 ls []) := by
  have hx := F.1
  have hb := F.2.1
  intro n
  induction n with
  | zero =>
    intro z1 z2 h
    exact absurd h (by simp [m_X1_ordersMissed_L4])
  | succ n ih =>
    intro z1 z2 h H locs ls hG hl
    rw [m_X1_ordersMissed_L4] at h
    refine lv_iload_n hx hb dX1_ordersMissed_4 rfl (lv_at hl 2 rfl) ?_
    refine lv_aload_n hx hb dX1_ordersMissed_5 rfl (lv_at hl 0 rfl) ?_
    refine xg1 F hG hq0 2 (by decide) (kw470 F.kd) (v := .int (M q0 2)) rfl dX1_ordersMissed_6 ?_
    refine lv_icmp_ge (tgt := 30) hx hb dX1_ordersMissed_9 (by decide) (fun c2 => ?_) (fun c2 => ?_)
    · have h := ite_t h c2
      exact K0 _ _ _ _ (som1 h).symm hG (lv_sub hl [1] rfl)
    · have h := ite_f h c2
      refine lv_iload_n hx hb dX1_ordersMissed_12 rfl (lv_at hl 1 rfl) ?_
      refine lv_aload_n hx hb dX1_ordersMissed_13 rfl (lv_at hl 0 rfl) ?_
      have hk3 := kt_crowds hq0
      refine xg1 F hG hq0 1 (by decide) (kw468 F.kd) (v := .ref (g (q0 + 3))) rfl dX1_ordersMissed_14 ?_
      refine lv_iload_n hx hb dX1_ordersMissed_17 rfl (lv_at hl 2 rfl) ?_
      obtain ⟨hi4, h⟩ := chk_e h
      have hk5 := kt_elC hk3 hi4
      refine r_aldC F hG hk3 hi4 dX1_ordersMissed_18 ?_
      refine xg0N F hG hk5 5 (by decide) (kw429 F.kd) (v := .int (M (elC (q0 + 3) z2) 5)) rfl dX1_ordersMissed_19 ?_
      refine lv_iadd hx hb dX1_ordersMissed_22 ?_
      refine lv_topi (fun x6 ex6 => ?_)
      have h := mlet_n h ex6
      refine lv_istore_n (lv' := [(1, .int x6), (0, .ref (g q0)), (2, .int z2)]) hx hb dX1_ordersMissed_23 rfl hl (by decide) rfl (fun ls hl => ?_)
      obtain ⟨x7, ex7, h⟩ := mlet_e h
      refine lv_iinc (v := x7) (lv' := [(2, .int x7), (1, .int x6), (0, .ref (g q0))]) hx hb dX1_ordersMissed_24 hl (k := 2) rfl (by rw [ex7]; rfl) (by decide) rfl (fun ls hl => ?_)
      refine lv_goto (tgt := 4) hx hb dX1_ordersMissed_27 (by decide) ?_
      exact ih x6 x7 h _ _ _ hG (lv_sub hl [2, 1, 0] rfl)
set_option maxHeartbeats 4000000 in
set_option maxRecDepth 100000 in
theorem c_X1_ordersMissed (l : Launch) (D : va_G) (ca : vCA) (g : Nat → Nat) {fu : Nat} {M : Mem} {a0 : Nat} {r : Int32} (ha0 : kd a0 = 1) (h : m_X1_ordersMissed fu M a0 = some r) : cM l yX1_ordersMissed cX1_ordersMissed 3 (some .int) { frames := 0, cells := 0, slots := 0, locals := 0 } D ca g M [.ref (g a0)] (fun sz => cQi D ca g sz M r) := by
  refine mk_Met (by decide) (Nat.le_of_ble_eq_true rfl) ?_
  intro p e s m below meth c F hr hlk hnm hG ls hl
  have hx := F.1
  have hb := F.2.1
  replace hl : lv_has ls 3 [(0, .ref (g a0))] := hl
  unfold m_X1_ordersMissed at h
  refine lv_iconst (v := 0) hx hb dX1_ordersMissed_0 (by decide) ?_
  refine lv_istore_n (lv' := [(1, .int 0), (0, .ref (g a0))]) hx hb dX1_ordersMissed_1 rfl hl (by decide) rfl (fun ls hl => ?_)
  refine lv_iconst (v := 0) hx hb dX1_ordersMissed_2 (by decide) ?_
  refine lv_istore_n (lv' := [(2, .int 0), (1, .int 0), (0, .ref (g a0))]) hx hb dX1_ordersMissed_3 rfl hl (by decide) rfl (fun ls hl => ?_)
  obtain ⟨o8, ho9, h⟩ := cb1_e h
  refine m_X1_ordersMissed_L4_w (out := o8) F ha0 ?_ _ _ _ ho9 _ _ _ hG (lv_sub hl [2, 1, 0] rfl)
  · intro x10 H locs ls eo hG hl
    subst o8
    refine lv_iload_n hx hb dX1_ordersMissed_30 rfl (lv_at hl 0 rfl) ?_
    obtain rfl := som1 h
    exact end_i F hr hlk hG dX1_ordersMissed_31

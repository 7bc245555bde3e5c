set_option maxHeartbeats 4000000 in
set_option maxRecDepth 100000 in
theorem c_X3_next (l : Launch) (D : va_G) (ca : vCA) (g : Nat → Nat) {fu : Nat} {M : Mem} {x0 : Int32} {x1 : Int32} {r : Int32}  (h : m_X3_next fu M x0 x1 = some r) : cM l yX3_next cX3_next 2 (some .int) { frames := 0, cells := 0, slots := 0, locals := 0 } D ca g M [.int x0, .int x1] (fun sz => cQi D ca g sz M r) := by
  refine mk_Met (by decide) (Nat.le_of_ble_eq_true rfl) ?_
  intro p e s m below meth c F hr hlk hnm hG ls hl
  have hx := F.1
  have hb := F.2.1
  replace hl : lv_has ls 2 [(0, .int x0), (1, .int x1)] := hl
  unfold m_X3_next at h
  refine lv_iload_n hx hb dX3_next_0 rfl (lv_at hl 0 rfl) ?_
  refine lv_if_lt (tgt := 10) hx hb dX3_next_1 (by decide) (fun c3 => ?_) (fun c3 => ?_)
  · have h := ite_t h c3
    refine lv_iconst (v := (-1)) hx hb dX3_next_10 (by decide) ?_
    obtain rfl := som1 h
    exact end_i F hr hlk hG dX3_next_11
  · have h := ite_f h c3
    refine lv_iload_n hx hb dX3_next_4 rfl (lv_at hl 0 rfl) ?_
    refine lv_bipush (v := 108) hx hb dX3_next_5 (by decide) ?_
    refine lv_icmp_lt (tgt := 12) hx hb dX3_next_7 (by decide) (fun c4 => ?_) (fun c4 => ?_)
    · have h := ite_t h c4
      refine lv_iload_n hx hb dX3_next_12 rfl (lv_at hl 1 rfl) ?_
      by_cases c5 : x1 = 0
      · have h := ite_t h c5
        refine lv_tableIn (off := 27) (tgt := 40) hx hb dX3_next_13 (by rw [c5]; decide) (by rw [c5]; decide) (by rw [c5]; rfl) (by decide) ?_
        refine lv_iload_n hx hb dX3_next_40 rfl (lv_at hl 0 rfl) ?_
        refine lv_bipush (v := 12) hx hb dX3_next_41 (by decide) ?_
        refine lv_icmp_lt (tgt := 53) hx hb dX3_next_43 (by decide) (fun c6 => ?_) (fun c6 => ?_)
        · have h := ite_t h c6
          refine lv_iconst (v := (-1)) hx hb dX3_next_53 (by decide) ?_
          obtain rfl := som1 h
          exact end_i F hr hlk hG dX3_next_54
        · have h := ite_f h c6
          refine lv_iload_n hx hb dX3_next_46 rfl (lv_at hl 0 rfl) ?_
          refine lv_bipush (v := 12) hx hb dX3_next_47 (by decide) ?_
          refine lv_isub hx hb dX3_next_49 ?_
          refine lv_goto (tgt := 54) hx hb dX3_next_50 (by decide) ?_
          obtain rfl := som1 h
          exact end_i F hr hlk hG dX3_next_54
      have h := ite_f h c5
      by_cases c7 : x1 = 1
      · have h := ite_t h c7
        refine lv_tableIn (off := 42) (tgt := 55) hx hb dX3_next_13 (by rw [c7]; decide) (by rw [c7]; decide) (by rw [c7]; rfl) (by decide) ?_
        refine lv_iload_n hx hb dX3_next_55 rfl (lv_at hl 0 rfl) ?_
        refine lv_bipush (v := 12) hx hb dX3_next_56 (by decide) ?_
        refine lv_irem hx hb dX3_next_58 (by decide) ?_
        refine lv_bipush (v := 11) hx hb dX3_next_59 (by decide) ?_
        refine lv_icmp_ge (tgt := 70) hx hb dX3_next_61 (by decide) (fun c8 => ?_) (fun c8 => ?_)
        · have h := ite_t h c8
          refine lv_iconst (v := (-1)) hx hb dX3_next_70 (by decide) ?_
          obtain rfl := som1 h
          exact end_i F hr hlk hG dX3_next_71
        · have h := ite_f h c8
          refine lv_iload_n hx hb dX3_next_64 rfl (lv_at hl 0 rfl) ?_
          refine lv_iconst (v := 1) hx hb dX3_next_65 (by decide) ?_
          refine lv_iadd hx hb dX3_next_66 ?_
          refine lv_goto (tgt := 71) hx hb dX3_next_67 (by decide) ?_
          obtain rfl := som1 h
          exact end_i F hr hlk hG dX3_next_71
      have h := ite_f h c7
      by_cases c9 : x1 = 2
      · have h := ite_t h c9
        refine lv_tableIn (off := 59) (tgt := 72) hx hb dX3_next_13 (by rw [c9]; decide) (by rw [c9]; decide) (by rw [c9]; rfl) (by decide) ?_
        refine lv_iload_n hx hb dX3_next_72 rfl (lv_at hl 0 rfl) ?_
        refine lv_bipush (v := 96) hx hb dX3_next_73 (by decide) ?_
        refine lv_icmp_ge (tgt := 85) hx hb dX3_next_75 (by decide) (fun c10 => ?_) (fun c10 => ?_)
        · have h := ite_t h c10
          refine lv_iconst (v := (-1)) hx hb dX3_next_85 (by decide) ?_
          obtain rfl := som1 h
          exact end_i F hr hlk hG dX3_next_86
        · have h := ite_f h c10
          refine lv_iload_n hx hb dX3_next_78 rfl (lv_at hl 0 rfl) ?_
          refine lv_bipush (v := 12) hx hb dX3_next_79 (by decide) ?_
          refine lv_iadd hx hb dX3_next_81 ?_
          refine lv_goto (tgt := 86) hx hb dX3_next_82 (by decide) ?_
          obtain rfl := som1 h
          exact end_i F hr hlk hG dX3_next_86
      have h := ite_f h c9
      refine lv_tableOut (tgt := 87) hx hb dX3_next_13 (tso2 c5 c7 c9) (by decide) ?_
      refine lv_iload_n hx hb dX3_next_87 rfl (lv_at hl 0 rfl) ?_
      refine lv_bipush (v := 12) hx hb dX3_next_88 (by decide) ?_
      refine lv_irem hx hb dX3_next_90 (by decide) ?_
      refine lv_if_le (tgt := 100) hx hb dX3_next_91 (by decide) (fun c11 => ?_) (fun c11 => ?_)
      · have h := ite_t h c11
        refine lv_iconst (v := (-1)) hx hb dX3_next_100 (by decide) ?_
        obtain rfl := som1 h
        exact end_i F hr hlk hG dX3_next_101
      · have h := ite_f h c11
        refine lv_iload_n hx hb dX3_next_94 rfl (lv_at hl 0 rfl) ?_
        refine lv_iconst (v := 1) hx hb dX3_next_95 (by decide) ?_
        refine lv_isub hx hb dX3_next_96 ?_
        refine lv_goto (tgt := 101) hx hb dX3_next_97 (by decide) ?_
        obtain rfl := som1 h
        exact end_i F hr hlk hG dX3_next_101
    · have h := ite_f h c4
      refine lv_iconst (v := (-1)) hx hb dX3_next_10 (by decide) ?_
      obtain rfl := som1 h
      exact end_i F hr hlk hG dX3_next_11
set_option maxHeartbeats 4000000 in
set_option maxRecDepth 100000 in
theorem c_X3_at (l : Launch) (D : va_G) (ca : vCA) (g : Nat → Nat) {fu : Nat} {M : Mem} {a0 : Nat} {x1 : Int32} {r : Int32} (ha0 : kd a0 = 3) (h : m_X3_at fu M a0 x1 = some r) : cM l yX3_at cX3_at 2 (some .int) { frames := 0, cells := 0, slots := 0, locals := 0 } D ca g M [.ref (g a0), .int x1] (fun sz => cQi D ca g sz M r) := by
  refine mk_Met (by decide) (Nat.le_of_ble_eq_true rfl) ?_
  intro p e s m below meth c F hr hlk hnm hG ls hl
  have hx := F.1
  have hb := F.2.1
  replace hl : lv_has ls 2 [(0, .ref (g a0)), (1, .int x1)] := hl
  unfold m_X3_at at h
  refine lv_iload_n hx hb dX3_at_0 rfl (lv_at hl 1 rfl) ?_
  refine lv_if_lt (tgt := 19) hx hb dX3_at_1 (by decide) (fun c3 => ?_) (fun c3 => ?_)
  · have h := ite_t h c3
    refine lv_iconst (v := (-1)) hx hb dX3_at_19 (by decide) ?_
    obtain rfl := som1 h
    exact end_i F hr hlk hG dX3_at_20
  · have h := ite_f h c3
    refine lv_iload_n hx hb dX3_at_4 rfl (lv_at hl 1 rfl) ?_
    refine lv_bipush (v := 108) hx hb dX3_at_5 (by decide) ?_
    refine lv_icmp_ge (tgt := 19) hx hb dX3_at_7 (by decide) (fun c4 => ?_) (fun c4 => ?_)
    · have h := ite_t h c4
      refine lv_iconst (v := (-1)) hx hb dX3_at_19 (by decide) ?_
      obtain rfl := som1 h
      exact end_i F hr hlk hG dX3_at_20
    · have h := ite_f h c4
      refine lv_aload_n hx hb dX3_at_10 rfl (lv_at hl 0 rfl) ?_
      have hk5 := kt_qcells ha0
      refine xg3 F hG ha0 0 (by decide) (kw407 F.kd) (v := .ref (g (a0 + 1))) rfl dX3_at_11 ?_
      refine lv_iload_n hx hb dX3_at_14 rfl (lv_at hl 1 rfl) ?_
      obtain ⟨hi6, h⟩ := chk_e h
      refine r_ald F hG hk5 hi6 dX3_at_15 ?_
      refine lv_goto (tgt := 20) hx hb dX3_at_16 (by decide) ?_
      obtain rfl := som1 h
      exact end_i F hr hlk hG dX3_at_20
set_option maxHeartbeats 4000000 in
set_option maxRecDepth 100000 in
theorem c_X3_put (l : Launch) (D : va_G) (ca : vCA) (g : Nat → Nat) {fu : Nat} {M : Mem} {a0 : Nat} {x1 : Int32} {x2 : Int32} {M' : Mem} (ha0 : kd a0 = 3) (h : m_X3_put fu M a0 x1 x2 = some M') : cM l yX3_put cX3_put 3 none { frames := 0, cells := 0, slots := 0, locals := 0 } D ca g M [.ref (g a0), .int x1, .int x2] (fun sz => cQv D ca g sz M') := by
  refine mk_Met (by decide) (Nat.le_of_ble_eq_true rfl) ?_
  intro p e s m below meth c F hr hlk hnm hG ls hl
  have hx := F.1
  have hb := F.2.1
  replace hl : lv_has ls 3 [(0, .ref (g a0)), (1, .int x1), (2, .int x2)] := hl
  unfold m_X3_put at h
  refine lv_iload_n hx hb dX3_put_0 rfl (lv_at hl 1 rfl) ?_
  refine lv_if_lt (tgt := 17) hx hb dX3_put_1 (by decide) (fun c4 => ?_) (fun c4 => ?_)
  · have h := ite_t h c4
    obtain rfl := som1 h
    exact end_v F hr hlk hG dX3_put_17
  · have h := ite_f h c4
    refine lv_iload_n hx hb dX3_put_4 rfl (lv_at hl 1 rfl) ?_
    refine lv_bipush (v := 108) hx hb dX3_put_5 (by decide) ?_
    refine lv_icmp_ge (tgt := 17) hx hb dX3_put_7 (by decide) (fun c5 => ?_) (fun c5 => ?_)
    · have h := ite_t h c5
      obtain rfl := som1 h
      exact end_v F hr hlk hG dX3_put_17
    · have h := ite_f h c5
      refine lv_aload_n hx hb dX3_put_10 rfl (lv_at hl 0 rfl) ?_
      have hk6 := kt_qcells ha0
      refine xg3 F hG ha0 0 (by decide) (kw407 F.kd) (v := .ref (g (a0 + 1))) rfl dX3_put_11 ?_
      refine lv_iload_n hx hb dX3_put_14 rfl (lv_at hl 1 rfl) ?_
      refine lv_iload_n hx hb dX3_put_15 rfl (lv_at hl 2 rfl) ?_
      obtain ⟨hi7, h⟩ := chk_e h
      obtain ⟨M8, eM8, h⟩ := mlet_e h
      refine r_ast F hG hk6 hi7 eM8 dX3_put_16 (fun H locs hG => ?_)
      obtain rfl := som1 h
      exact end_v F hr hlk hG dX3_put_17
set_option maxHeartbeats 4000000 in
set_option maxRecDepth 100000 in
theorem c_X3_isFree (l : Launch) (D : va_G) (ca : vCA) (g : Nat → Nat) {fu : Nat} {M : Mem} {a0 : Nat} {x1 : Int32} {r : Int32} (ha0 : kd a0 = 3) (h : m_X3_isFree fu M a0 x1 = some r) : cM l yX3_isFree cX3_isFree 2 (some .boolean) { frames := 1, cells := 0, slots := 0, locals := 21 } D ca g M [.ref (g a0), .int x1] (fun sz => cQi D ca g sz M r) := by
  refine mk_Met (by decide) (Nat.le_of_ble_eq_true rfl) ?_
  intro p e s m below meth c F hr hlk hnm hG ls hl
  have hx := F.1
  have hb := F.2.1
  replace hl : lv_has ls 2 [(0, .ref (g a0)), (1, .int x1)] := hl
  unfold m_X3_isFree at h
  refine lv_aload_n hx hb dX3_isFree_0 rfl (lv_at hl 0 rfl) ?_
  refine lv_iload_n hx hb dX3_isFree_1 rfl (lv_at hl 1 rfl) ?_
  obtain ⟨r4, hc3, h⟩ := cb1_e h
  refine k_i (r_runV F hG (c_X3_at l D ca g ha0 hc3) (kd_lt ha0 (by decide)) (gd3 ha0) rfl (kw204 F.kd) (kw95 F.kd) (ks_X3_at F.kd) (kw3 F.kd) (kw97 F.kd) yd_X3_at ⟨Nat.le_of_ble_eq_true rfl, Nat.le_of_ble_eq_true rfl⟩ rfl hl.1 rfl (Nat.le_of_ble_eq_true rfl) dX3_isFree_2 ⟨Nat.le_of_ble_eq_true rfl, Nat.le_of_ble_eq_true rfl⟩) hG (fun H locs hG => ?_)
  refine lv_if_ne (tgt := 12) hx hb dX3_isFree_5 (by decide) (fun c5 => ?_) (fun c5 => ?_)
  · have h := ite_f h c5
    refine lv_iconst (v := 0) hx hb dX3_isFree_12 (by decide) ?_
    obtain rfl := som1 h
    exact end_z F hr hlk (by decide) hG dX3_isFree_13
  · have h := ite_t h c5
    refine lv_iconst (v := 1) hx hb dX3_isFree_8 (by decide) ?_
    refine lv_goto (tgt := 13) hx hb dX3_isFree_9 (by decide) ?_
    obtain rfl := som1 h
    exact end_z F hr hlk (by decide) hG dX3_isFree_13
set_option maxHeartbeats 4000000 in
set_option maxRecDepth 100000 in
theorem m_X3_cellsWith_L4_w {p : Program} {l : Launch} {e : Env} {s : State} {m : MethodId} {args : Array Value} {below : List Frame} {meth : Method} {c : Code} {Q : State → Prop} {D : va_G} {ca : vCA} {g : Nat → Nat} {fu : Nat} {M : Mem} {q0 : Nat} {y1 : Int32} {out : Int32} (F : FX p m c cX3_cellsWith 4 s D ca g RX3) (hq0 : kd q0 = 3)
    (K0 : ∀ (u2 : Int32) (H : Heap) (locs : List Loc) (ls : Array Slot), out = u2 → GW D ca g s M H locs → lv_has ls 4 [(2, .int u2)] → W p l e ({ frames := 0, cells := 0, slots := 0, locals := 0 }) s m args below meth c H locs 0 0 Q (F0 m 29 ls [])) :
    ∀ (n : Nat) (z2 : Int32) (z3 : Int32), m_X3_cellsWith_L4 fu M q0 y1 n z2 z3 = some out → ∀ (H : Heap) (locs : List Loc) (ls : Array Slot), GW D ca g s M H locs → lv_has ls 4 [(0, .ref (g q0)), (1, .int y1), (2, .int z2), (3, .int z3)] → W p l e ({ frames := 0, cells := 0, slots := 0, locals := 0 }) s m args below meth c H locs 0 0 Q (F0 m 4 ls []) := by
  have hx := F.1
  have hb := F.2.1
  intro n
  induction n with
  | zero =>
    intro z2 z3 h
    exact absurd h (by simp [m_X3_cellsWith_L4])
  | succ n ih =>
    intro z2 z3 h H locs ls hG hl
    rw [m_X3_cellsWith_L4] at h
    refine lv_iload_n hx hb dX3_cellsWith_4 rfl (lv_at hl 3 rfl) ?_
    refine lv_bipush (v := 108) hx hb dX3_cellsWith_5 (by decide) ?_
    refine lv_icmp_ge (tgt := 29) hx hb dX3_cellsWith_7 (by decide) (fun c3 => ?_) (fun c3 => ?_)
    · have h := ite_t h c3
      exact K0 _ _ _ _ (som1 h).symm hG (lv_sub hl [2] rfl)
    · have h := ite_f h c3
      refine lv_aload_n hx hb dX3_cellsWith_10 rfl (lv_at hl 0 rfl) ?_
      have hk4 := kt_qcells hq0
      refine xg3 F hG hq0 0 (by decide) (kw407 F.kd) (v := .ref (g (q0 + 1))) rfl dX3_cellsWith_11 ?_
      refine lv_iload_n hx hb dX3_cellsWith_14 rfl (lv_at hl 3 rfl) ?_
      obtain ⟨hi5, h⟩ := chk_e h
      refine r_ald F hG hk4 hi5 dX3_cellsWith_15 ?_
      refine lv_iload_n hx hb dX3_cellsWith_16 rfl (lv_at hl 1 rfl) ?_
      refine lv_icmp_ne (tgt := 23) hx hb dX3_cellsWith_17 (by decide) (fun c6 => ?_) (fun c6 => ?_)
      · have h := ite_f h c6
        obtain ⟨x7, ex7, h⟩ := mlet_e h
        refine lv_iinc (v := x7) (lv' := [(3, .int x7), (0, .ref (g q0)), (1, .int y1), (2, .int z2)]) hx hb dX3_cellsWith_23 hl (k := 3) rfl (by rw [ex7]; rfl) (by decide) rfl (fun ls hl => ?_)
        refine lv_goto (tgt := 4) hx hb dX3_cellsWith_26 (by decide) ?_
        exact ih z2 x7 h _ _ _ hG (lv_sub hl [1, 2, 3, 0] rfl)
      · have h := ite_t h c6
        obtain ⟨x8, ex8, h⟩ := mlet_e h
        refine lv_iinc (v := x8) (lv' := [(2, .int x8), (0, .ref (g q0)), (1, .int y1), (3, .int z3)]) hx hb dX3_cellsWith_20 hl (k := 2) rfl (by rw [ex8]; rfl) (by decide) rfl (fun ls hl => ?_)
        obtain ⟨x9, ex9, h⟩ := mlet_e h
        refine lv_iinc (v := x9) (lv' := [(3, .int x9), (2, .int x8), (0, .ref (g q0)), (1, .int y1)]) hx hb dX3_cellsWith_23 hl (k := 3) rfl (by rw [ex9]; rfl) (by decide) rfl (fun ls hl => ?_)
        refine lv_goto (tgt := 4) hx hb dX3_cellsWith_26 (by decide) ?_
        exact ih x8 x9 h _ _ _ hG (lv_sub hl [2, 3, 1, 0] rfl)
set_option maxHeartbeats 4000000 in
set_option maxRecDepth 100000 in
theorem c_X3_cellsWith (l : Launch) (D : va_G) (ca : vCA) (g : Nat → Nat) {fu : Nat} {M : Mem} {a0 : Nat} {x1 : Int32} {r : Int32} (ha0 : kd a0 = 3) (h : m_X3_cellsWith fu M a0 x1 = some r) : cM l yX3_cellsWith cX3_cellsWith 4 (some .int) { frames := 0, cells := 0, slots := 0, locals := 0 } D ca g M [.ref (g a0), .int x1] (fun sz => cQi D ca g sz M r) := by
  refine mk_Met (by decide) (Nat.le_of_ble_eq_true rfl) ?_
  intro p e s m below meth c F hr hlk hnm hG ls hl
  have hx := F.1
  have hb := F.2.1
  replace hl : lv_has ls 4 [(0, .ref (g a0)), (1, .int x1)] := hl
  unfold m_X3_cellsWith at h
  refine lv_iconst (v := 0) hx hb dX3_cellsWith_0 (by decide) ?_
  refine lv_istore_n (lv' := [(2, .int 0), (0, .ref (g a0)), (1, .int x1)]) hx hb dX3_cellsWith_1 rfl hl (by decide) rfl (fun ls hl => ?_)
  refine lv_iconst (v := 0) hx hb dX3_cellsWith_2 (by decide) ?_
  refine lv_istore_n (lv' := [(3, .int 0), (2, .int 0), (0, .ref (g a0)), (1, .int x1)]) hx hb dX3_cellsWith_3 rfl hl (by decide) rfl (fun ls hl => ?_)
  obtain ⟨o10, ho11, h⟩ := cb1_e h
  refine m_X3_cellsWith_L4_w (out := o10) F ha0 ?_ _ _ _ ho11 _ _ _ hG (lv_sub hl [2, 3, 1, 0] rfl)
  · intro x12 H locs ls eo hG hl
    subst o10
    refine lv_iload_n hx hb dX3_cellsWith_29 rfl (lv_at hl 0 rfl) ?_
    obtain rfl := som1 h
    exact end_i F hr hlk hG dX3_cellsWith_30
set_option maxHeartbeats 4000000 in
set_option maxRecDepth 100000 in
theorem m_X3_barricades_L4_w {p : Program} {l : Launch} {e : Env} {s : State} {m : MethodId} {args : Array Value} {below : List Frame} {meth : Method} {c : Code} {Q : State → Prop} {D : va_G} {ca : vCA} {g : Nat → Nat} {fu : Nat} {M : Mem} {q0 : Nat} {out : Int32} (F : FX p m c cX3_barricades 3 s D ca g RX3) (hq0 : kd q0 = 3)
    (K0 : ∀ (u1 : Int32) (H : Heap) (locs : List Loc) (ls : Array Slot), out = u1 → GW D ca g s M H locs → lv_has ls 3 [(1, .int u1)] → W p l e ({ frames := 0, cells := 0, slots := 0, locals := 0 }) s m args below meth c H locs 0 0 Q (F0 m 34 ls [])) :
    ∀ (n : Nat) (z1 : Int32) (z2 : Int32), m_X3_barricades_L4 fu M q0 n z1 z2 = some out → ∀ (H : Heap) (locs : List Loc) (ls : Array Slot), GW D ca g s M H locs → lv_has ls 3 [(0, .ref (g q0)), (1, .int z1), (2, .int z2)] → W p l e ({ frames := 0, cells := 0, slots := 0, locals := 0 }) s m args below meth c H locs 0 0 Q (F0 m 4 ls []) := by
  have hx := F.1
  have hb := F.2.1
  intro n
  induction n with
  | zero =>
    intro z1 z2 h
    exact absurd h (by simp [m_X3_barricades_L4])
  | succ n ih =>
    intro z1 z2 h H locs ls hG hl
    rw [m_X3_barricades_L4] at h
    refine lv_iload_n hx hb dX3_barricades_4 rfl (lv_at hl 2 rfl) ?_
    refine lv_bipush (v := 108) hx hb dX3_barricades_5 (by decide) ?_
    refine lv_icmp_ge (tgt := 34) hx hb dX3_barricades_7 (by decide) (fun c2 => ?_) (fun c2 => ?_)
    · have h := ite_t h c2
      exact K0 _ _ _ _ (som1 h).symm hG (lv_sub hl [1] rfl)
    · have h := ite_f h c2
      refine lv_aload_n hx hb dX3_barricades_10 rfl (lv_at hl 0 rfl) ?_
      have hk3 := kt_qcells hq0
      refine xg3 F hG hq0 0 (by decide) (kw407 F.kd) (v := .ref (g (q0 + 1))) rfl dX3_barricades_11 ?_
      refine lv_iload_n hx hb dX3_barricades_14 rfl (lv_at hl 2 rfl) ?_
      obtain ⟨hi4, h⟩ := chk_e h
      refine r_ald F hG hk3 hi4 dX3_barricades_15 ?_
      refine lv_if_le (tgt := 28) hx hb dX3_barricades_16 (by decide) (fun c5 => ?_) (fun c5 => ?_)
      · have h := ite_t h c5
        obtain ⟨x6, ex6, h⟩ := mlet_e h
        refine lv_iinc (v := x6) (lv' := [(2, .int x6), (0, .ref (g q0)), (1, .int z1)]) hx hb dX3_barricades_28 hl (k := 2) rfl (by rw [ex6]; rfl) (by decide) rfl (fun ls hl => ?_)
        refine lv_goto (tgt := 4) hx hb dX3_barricades_31 (by decide) ?_
        exact ih z1 x6 h _ _ _ hG (lv_sub hl [1, 2, 0] rfl)
      · have h := ite_f h c5
        refine lv_iload_n hx hb dX3_barricades_19 rfl (lv_at hl 1 rfl) ?_
        refine lv_aload_n hx hb dX3_barricades_20 rfl (lv_at hl 0 rfl) ?_
        have hk7 := kt_qcells hq0
        refine xg3 F hG hq0 0 (by decide) (kw407 F.kd) (v := .ref (g (q0 + 1))) rfl dX3_barricades_21 ?_
        refine lv_iload_n hx hb dX3_barricades_24 rfl (lv_at hl 2 rfl) ?_
        obtain ⟨hi8, h⟩ := chk_e h
        refine r_ald F hG hk7 hi8 dX3_barricades_25 ?_
        refine lv_iadd hx hb dX3_barricades_26 ?_
        refine lv_topi (fun x9 ex9 => ?_)
        have h := mlet_n h ex9
        refine lv_istore_n (lv' := [(1, .int x9), (0, .ref (g q0)), (2, .int z2)]) hx hb dX3_barricades_27 rfl hl (by decide) rfl (fun ls hl => ?_)
        obtain ⟨x10, ex10, h⟩ := mlet_e h
        refine lv_iinc (v := x10) (lv' := [(2, .int x10), (1, .int x9), (0, .ref (g q0))]) hx hb dX3_barricades_28 hl (k := 2) rfl (by rw [ex10]; rfl) (by decide) rfl (fun ls hl => ?_)
        refine lv_goto (tgt := 4) hx hb dX3_barricades_31 (by decide) ?_
        exact ih x9 x10 h _ _ _ hG (lv_sub hl [2, 1, 0] rfl)
set_option maxHeartbeats 4000000 in
set_option maxRecDepth 100000 in
theorem c_X3_barricades (l : Launch) (D : va_G) (ca : vCA) (g : Nat → Nat) {fu : Nat} {M : Mem} {a0 : Nat} {r : Int32} (ha0 : kd a0 = 3) (h : m_X3_barricades fu M a0 = some r) : cM l yX3_barricades cX3_barricades 3 (some .int) { frames := 0, cells := 0, slots := 0, locals := 0 } D ca g M [.ref (g a0)] (fun sz => cQi D ca g sz M r) := by
  refine mk_Met (by decide) (Nat.le_of_ble_eq_true rfl) ?_
  intro p e s m below meth c F hr hlk hnm hG ls hl
  have hx := F.1
  have hb := F.2.1
  replace hl : lv_has ls 3 [(0, .ref (g a0))] := hl
  unfold m_X3_barricades at h
  refine lv_iconst (v := 0) hx hb dX3_barricades_0 (by decide) ?_
  refine lv_istore_n (lv' := [(1, .int 0), (0, .ref (g a0))]) hx hb dX3_barricades_1 rfl hl (by decide) rfl (fun ls hl => ?_)
  refine lv_iconst (v := 0) hx hb dX3_barricades_2 (by decide) ?_
  refine lv_istore_n (lv' := [(2, .int 0), (1, .int 0), (0, .ref (g a0))]) hx hb dX3_barricades_3 rfl hl (by decide) rfl (fun ls hl => ?_)
  obtain ⟨o11, ho12, h⟩ := cb1_e h
  refine m_X3_barricades_L4_w (out := o11) F ha0 ?_ _ _ _ ho12 _ _ _ hG (lv_sub hl [2, 1, 0] rfl)
  · intro x13 H locs ls eo hG hl
    subst o11
    refine lv_iload_n hx hb dX3_barricades_34 rfl (lv_at hl 0 rfl) ?_
    obtain rfl := som1 h
    exact end_i F hr hlk hG dX3_barricades_35
set_option maxHeartbeats 4000000 in
set_option maxRecDepth 100000 in
theorem m_X3_addCellsTo_L5_w {p : Program} {l : Launch} {e : Env} {s : State} {m : MethodId} {args : Array Value} {below : List Frame} {meth : Method} {c : Code} {Q : State → Prop} {D : va_G} {ca : vCA} {g : Nat → Nat} {fu : Nat} {M : Mem} {q0 : Nat} {out : Int64} (F : FX p m c cX3_addCellsTo 6 s D ca g RX3) (hq0 : kd q0 = 3)
    (K0 : ∀ (u3 : Int64) (H : Heap) (locs : List Loc) (ls : Array Slot), out = u3 → GW D ca g s M H locs → lv_has ls 6 [(3, .long u3)] → W p l e ({ frames := 0, cells := 0, slots := 0, locals := 0 }) s m args below meth c H locs 0 0 Q (F0 m 33 ls [])) :
    ∀ (n : Nat) (z3 : Int64) (z5 : Int32), m_X3_addCellsTo_L5 fu M q0 n z3 z5 = some out → ∀ (H : Heap) (locs : List Loc) (ls : Array Slot), GW D ca g s M H locs → lv_has ls 6 [(0, .ref (g q0)), (3, .long z3), (5, .int z5)] → W p l e ({ frames := 0, cells := 0, slots := 0, locals := 0 }) s m args below meth c H locs 0 0 Q (F0 m 5 ls []) := by
  have hx := F.1
  have hb := F.2.1
  intro n
  induction n with
  | zero =>
    intro z3 z5 h
    exact absurd h (by simp [m_X3_addCellsTo_L5])
  | succ n ih =>
    intro z3 z5 h H locs ls hG hl
    rw [m_X3_addCellsTo_L5] at h
    refine lv_iload hx hb dX3_addCellsTo_5 (lv_at hl 2 rfl) ?_
    refine lv_bipush (v := 108) hx hb dX3_addCellsTo_7 (by decide) ?_
    refine lv_icmp_ge (tgt := 33) hx hb dX3_addCellsTo_9 (by decide) (fun c3 => ?_) (fun c3 => ?_)
    · have h := ite_t h c3
      exact K0 _ _ _ _ (som1 h).symm hG (lv_sub hl [1] rfl)
    · have h := ite_f h c3
      refine lv_lload_n hx hb dX3_addCellsTo_12 rfl (lv_at hl 1 rfl) ?_
      refine lv_ldc2 (v := 31) hx hb F.2.2.2.1 (kw364 F.kd) dX3_addCellsTo_13 ?_
      refine lv_lmul hx hb dX3_addCellsTo_16 ?_
      refine lv_aload_n hx hb dX3_addCellsTo_17 rfl (lv_at hl 0 rfl) ?_
      have hk4 := kt_qcells hq0
      refine xg3 F hG hq0 0 (by decide) (kw407 F.kd) (v := .ref (g (q0 + 1))) rfl dX3_addCellsTo_18 ?_
      refine lv_iload hx hb dX3_addCellsTo_21 (lv_at hl 2 rfl) ?_
      obtain ⟨hi5, h⟩ := chk_e h
      refine r_ald F hG hk4 hi5 dX3_addCellsTo_23 ?_
      refine lv_i2l (v := ((M (q0 + 1) z5.toNatClampNeg) : Int32).toInt64) hx hb dX3_addCellsTo_24 rfl ?_
      refine lv_ladd hx hb dX3_addCellsTo_25 ?_
      refine lv_topl (fun x6 ex6 => ?_)
      have h := mlet_n h ex6
      refine lv_lstore_n (lv' := [(3, .long x6), (0, .ref (g q0)), (5, .int z5)]) hx hb dX3_addCellsTo_26 rfl hl (by decide) rfl (fun ls hl => ?_)
      obtain ⟨x7, ex7, h⟩ := mlet_e h
      refine lv_iinc (v := x7) (lv' := [(5, .int x7), (3, .long x6), (0, .ref (g q0))]) hx hb dX3_addCellsTo_27 hl (k := 2) rfl (by rw [ex7]; rfl) (by decide) rfl (fun ls hl => ?_)
      refine lv_goto (tgt := 5) hx hb dX3_addCellsTo_30 (by decide) ?_
      exact ih x6 x7 h _ _ _ hG (lv_sub hl [2, 1, 0] rfl)
set_option maxHeartbeats 4000000 in
set_option maxRecDepth 100000 in
theorem c_X3_addCellsTo (l : Launch) (D : va_G) (ca : vCA) (g : Nat → Nat) {fu : Nat} {M : Mem} {a0 : Nat} {x1 : Int64} {r : Int64} (ha0 : kd a0 = 3) (h : m_X3_addCellsTo fu M a0 x1 = some r) : cM l yX3_addCellsTo cX3_addCellsTo 6 (some .long) { frames := 0, cells := 0, slots := 0, locals := 0 } D ca g M [.ref (g a0), .long x1] (fun sz => cQl D ca g sz M r) := by
  refine mk_Met (by decide) (Nat.le_of_ble_eq_true rfl) ?_
  intro p e s m below meth c F hr hlk hnm hG ls hl
  have hx := F.1
  have hb := F.2.1
  replace hl : lv_has ls 6 [(0, .ref (g a0)), (1, .long x1)] := hl
  unfold m_X3_addCellsTo at h
  refine lv_lload_n hx hb dX3_addCellsTo_0 rfl (lv_at hl 1 rfl) ?_
  refine lv_lstore_n (lv' := [(3, .long x1), (0, .ref (g a0)), (1, .long x1)]) hx hb dX3_addCellsTo_1 rfl hl (by decide) rfl (fun ls hl => ?_)
  refine lv_iconst (v := 0) hx hb dX3_addCellsTo_2 (by decide) ?_
  refine lv_istore (lv' := [(5, .int 0), (3, .long x1), (0, .ref (g a0)), (1, .long x1)]) hx hb dX3_addCellsTo_3 hl (by decide) rfl (fun ls hl => ?_)
  obtain ⟨o8, ho9, h⟩ := cb1_e h
  refine m_X3_addCellsTo_L5_w (out := o8) F ha0 ?_ _ _ _ ho9 _ _ _ hG (lv_sub hl [2, 1, 0] rfl)
  · intro x10 H locs ls eo hG hl
    subst o8
    refine lv_lload_n hx hb dX3_addCellsTo_33 rfl (lv_at hl 0 rfl) ?_
    obtain rfl := som1 h
    exact end_l F hr hlk hG dX3_addCellsTo_34
set_option maxHeartbeats 4000000 in
set_option maxRecDepth 100000 in
theorem c_X3_become (l : Launch) (D : va_G) (ca : vCA) (g : Nat → Nat) {fu : Nat} {M : Mem} {a0 : Nat} {a1 : Nat} {M' : Mem} (ha0 : kd a0 = 3) (ha1 : kd a1 = 3) (h : m_X3_become fu M a0 a1 = some M') : cM l yX3_become cX3_become 2 none { frames := 1, cells := 0, slots := 0, locals := 40 } D ca g M [.ref (g a0), .ref (g a1)] (fun sz => cQv D ca g sz M') := by
  refine mk_Met (by decide) (Nat.le_of_ble_eq_true rfl) ?_
  intro p e s m below meth c F hr hlk hnm hG ls hl
  have hx := F.1
  have hb := F.2.1
  replace hl : lv_has ls 2 [(0, .ref (g a0)), (1, .ref (g a1))] := hl
  unfold m_X3_become at h
  refine lv_aload_n hx hb dX3_become_0 rfl (lv_at hl 1 rfl) ?_
  have hk3 := kt_qcells ha1
  refine xg3 F hG ha1 0 (by decide) (kw407 F.kd) (v := .ref (g (a1 + 1))) rfl dX3_become_1 ?_
  refine lv_iconst (v := 0) hx hb dX3_become_4 (by decide) ?_
  refine lv_aload_n hx hb dX3_become_5 rfl (lv_at hl 0 rfl) ?_
  have hk4 := kt_qcells ha0
  refine xg3 F hG ha0 0 (by decide) (kw407 F.kd) (v := .ref (g (a0 + 1))) rfl dX3_become_6 ?_
  refine lv_iconst (v := 0) hx hb dX3_become_9 (by decide) ?_
  refine lv_bipush (v := 108) hx hb dX3_become_10 (by decide) ?_
  obtain ⟨hc5, h⟩ := chk_e h
  obtain ⟨M6, eM6, h⟩ := mlet_e h
  refine r_copy F hG hk3 hk4 hc5 eM6 hl.1 (kw331 F.kd) (kw281 F.kd) (kw280 F.kd) (kw13 F.kd) (Nat.le_of_ble_eq_true rfl) (Nat.le_of_ble_eq_true rfl) dX3_become_12 (fun H locs hG => ?_)
  obtain rfl := som1 h
  exact end_v F hr hlk hG dX3_become_15

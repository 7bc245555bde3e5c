set_option maxHeartbeats 4000000 in
set_option maxRecDepth 100000 in
theorem c_X0_isScattered (l : Launch) (D : va_G) (ca : vCA) (g : Nat → Nat) {fu : Nat} {M : Mem} {a0 : Nat} {r : Int32} (ha0 : kd a0 = 0) (h : m_X0_isScattered fu M a0 = some r) : cM l yX0_isScattered cX0_isScattered 1 (some .boolean) { frames := 0, cells := 0, slots := 0, locals := 0 } D ca g M [.ref (g a0)] (fun sz => cQi D ca g sz M r) := by
  refine mk_Met (by decide) (Nat.le_of_ble_eq_true rfl) ?_
  intro p e s m below meth c F hr hlk hnm hG ls hl
  have hx := F.1
  have hb := F.2.1
  replace hl : lv_has ls 1 [(0, .ref (g a0))] := hl
  unfold m_X0_isScattered at h
  refine lv_aload_n hx hb dX0_isScattered_0 rfl (lv_at hl 0 rfl) ?_
  refine xg0 F hG ha0 1 (by decide) (kw420 F.kd) (v := .int (M a0 1)) rfl dX0_isScattered_1 ?_
  refine lv_if_ne (tgt := 11) hx hb dX0_isScattered_4 (by decide) (fun c2 => ?_) (fun c2 => ?_)
  · have h := ite_f h c2
    refine lv_iconst (v := 0) hx hb dX0_isScattered_11 (by decide) ?_
    obtain rfl := som1 h
    exact end_z F hr hlk (by decide) hG dX0_isScattered_12
  · have h := ite_t h c2
    refine lv_iconst (v := 1) hx hb dX0_isScattered_7 (by decide) ?_
    refine lv_goto (tgt := 12) hx hb dX0_isScattered_8 (by decide) ?_
    obtain rfl := som1 h
    exact end_z F hr hlk (by decide) hG dX0_isScattered_12
set_option maxHeartbeats 4000000 in
set_option maxRecDepth 100000 in
theorem c_X0_addOrder (l : Launch) (D : va_G) (ca : vCA) (g : Nat → Nat) {fu : Nat} {M : Mem} {a0 : Nat} {x1 : Int32} {M' : Mem} (ha0 : kd a0 = 0) (h : m_X0_addOrder fu M a0 x1 = some M') : cM l yX0_addOrder cX0_addOrder 2 none { frames := 0, cells := 0, slots := 0, locals := 0 } D ca g M [.ref (g a0), .int x1] (fun sz => cQv D ca g sz M') := by
  refine mk_Met (by decide) (Nat.le_of_ble_eq_true rfl) ?_
  intro p e s m below meth c F hr hlk hnm hG ls hl
  have hx := F.1
  have hb := F.2.1
  replace hl : lv_has ls 2 [(0, .ref (g a0)), (1, .int x1)] := hl
  unfold m_X0_addOrder at h
  refine lv_aload_n hx hb dX0_addOrder_0 rfl (lv_at hl 0 rfl) ?_
  refine xg0 F hG ha0 4 (by decide) (kw426 F.kd) (v := .int (M a0 4)) rfl dX0_addOrder_1 ?_
  refine lv_if_lt (tgt := 36) hx hb dX0_addOrder_4 (by decide) (fun c3 => ?_) (fun c3 => ?_)
  · have h := ite_t h c3
    obtain rfl := som1 h
    exact end_v F hr hlk hG dX0_addOrder_36
  · have h := ite_f h c3
    refine lv_aload_n hx hb dX0_addOrder_7 rfl (lv_at hl 0 rfl) ?_
    refine xg0 F hG ha0 4 (by decide) (kw426 F.kd) (v := .int (M a0 4)) rfl dX0_addOrder_8 ?_
    refine lv_bipush (v := 24) hx hb dX0_addOrder_11 (by decide) ?_
    refine lv_icmp_ge (tgt := 36) hx hb dX0_addOrder_13 (by decide) (fun c4 => ?_) (fun c4 => ?_)
    · have h := ite_t h c4
      obtain rfl := som1 h
      exact end_v F hr hlk hG dX0_addOrder_36
    · have h := ite_f h c4
      refine lv_aload_n hx hb dX0_addOrder_16 rfl (lv_at hl 0 rfl) ?_
      have hk5 := kt_orders ha0
      refine xg0 F hG ha0 3 (by decide) (kw425 F.kd) (v := .ref (g (a0 + 1))) rfl dX0_addOrder_17 ?_
      refine lv_aload_n hx hb dX0_addOrder_20 rfl (lv_at hl 0 rfl) ?_
      refine xg0 F hG ha0 4 (by decide) (kw426 F.kd) (v := .int (M a0 4)) rfl dX0_addOrder_21 ?_
      refine lv_iload_n hx hb dX0_addOrder_24 rfl (lv_at hl 1 rfl) ?_
      obtain ⟨hi6, h⟩ := chk_e h
      obtain ⟨M7, eM7, h⟩ := mlet_e h
      refine r_ast F hG hk5 hi6 eM7 dX0_addOrder_25 (fun H locs hG => ?_)
      refine lv_aload_n hx hb dX0_addOrder_26 rfl (lv_at hl 0 rfl) ?_
      refine lv_dup hx hb dX0_addOrder_27 rfl ?_
      refine xg0 F hG ha0 4 (by decide) (kw426 F.kd) (v := .int (M7 a0 4)) rfl dX0_addOrder_28 ?_
      refine lv_iconst (v := 1) hx hb dX0_addOrder_31 (by decide) ?_
      refine lv_iadd hx hb dX0_addOrder_32 ?_
      obtain ⟨M8, eM8, h⟩ := mlet_e h
      refine xp0 F hG ha0 eM8 rfl (by decide) (kw426 F.kd) rfl rfl rfl dX0_addOrder_33 (fun H locs hG => ?_)
      obtain rfl := som1 h
      exact end_v F hr hlk hG dX0_addOrder_36
set_option maxHeartbeats 4000000 in
set_option maxRecDepth 100000 in
theorem c_X0_firstOrder (l : Launch) (D : va_G) (ca : vCA) (g : Nat → Nat) {fu : Nat} {M : Mem} {a0 : Nat} {r : Int32} (ha0 : kd a0 = 0) (h : m_X0_firstOrder fu M a0 = some r) : cM l yX0_firstOrder cX0_firstOrder 1 (some .int) { frames := 0, cells := 0, slots := 0, locals := 0 } D ca g M [.ref (g a0)] (fun sz => cQi D ca g sz M r) := by
  refine mk_Met (by decide) (Nat.le_of_ble_eq_true rfl) ?_
  intro p e s m below meth c F hr hlk hnm hG ls hl
  have hx := F.1
  have hb := F.2.1
  replace hl : lv_has ls 1 [(0, .ref (g a0))] := hl
  unfold m_X0_firstOrder at h
  refine lv_aload_n hx hb dX0_firstOrder_0 rfl (lv_at hl 0 rfl) ?_
  refine xg0 F hG ha0 4 (by decide) (kw426 F.kd) (v := .int (M a0 4)) rfl dX0_firstOrder_1 ?_
  refine lv_if_le (tgt := 16) hx hb dX0_firstOrder_4 (by decide) (fun c2 => ?_) (fun c2 => ?_)
  · have h := ite_t h c2
    refine lv_iconst (v := (-1)) hx hb dX0_firstOrder_16 (by decide) ?_
    obtain rfl := som1 h
    exact end_i F hr hlk hG dX0_firstOrder_17
  · have h := ite_f h c2
    refine lv_aload_n hx hb dX0_firstOrder_7 rfl (lv_at hl 0 rfl) ?_
    have hk3 := kt_orders ha0
    refine xg0 F hG ha0 3 (by decide) (kw425 F.kd) (v := .ref (g (a0 + 1))) rfl dX0_firstOrder_8 ?_
    refine lv_iconst (v := 0) hx hb dX0_firstOrder_11 (by decide) ?_
    obtain ⟨hi4, h⟩ := chk_e h
    refine r_ald F hG hk3 hi4 dX0_firstOrder_12 ?_
    refine lv_goto (tgt := 17) hx hb dX0_firstOrder_13 (by decide) ?_
    obtain rfl := som1 h
    exact end_i F hr hlk hG dX0_firstOrder_17
set_option maxHeartbeats 4000000 in
set_option maxRecDepth 100000 in
theorem c_X0_dropFirstOrder (l : Launch) (D : va_G) (ca : vCA) (g : Nat → Nat) {fu : Nat} {M : Mem} {a0 : Nat} {M' : Mem} (ha0 : kd a0 = 0) (h : m_X0_dropFirstOrder fu M a0 = some M') : cM l yX0_dropFirstOrder cX0_dropFirstOrder 1 none { frames := 1, cells := 0, slots := 0, locals := 40 } D ca g M [.ref (g a0)] (fun sz => cQv D ca g sz M') := by
  refine mk_Met (by decide) (Nat.le_of_ble_eq_true rfl) ?_
  intro p e s m below meth c F hr hlk hnm hG ls hl
  have hx := F.1
  have hb := F.2.1
  replace hl : lv_has ls 1 [(0, .ref (g a0))] := hl
  unfold m_X0_dropFirstOrder at h
  refine lv_aload_n hx hb dX0_dropFirstOrder_0 rfl (lv_at hl 0 rfl) ?_
  refine xg0 F hG ha0 4 (by decide) (kw426 F.kd) (v := .int (M a0 4)) rfl dX0_dropFirstOrder_1 ?_
  refine lv_if_le (tgt := 43) hx hb dX0_dropFirstOrder_4 (by decide) (fun c2 => ?_) (fun c2 => ?_)
  · have h := ite_t h c2
    obtain rfl := som1 h
    exact end_v F hr hlk hG dX0_dropFirstOrder_43
  · have h := ite_f h c2
    refine lv_aload_n hx hb dX0_dropFirstOrder_7 rfl (lv_at hl 0 rfl) ?_
    refine xg0 F hG ha0 4 (by decide) (kw426 F.kd) (v := .int (M a0 4)) rfl dX0_dropFirstOrder_8 ?_
    refine lv_bipush (v := 24) hx hb dX0_dropFirstOrder_11 (by decide) ?_
    refine lv_icmp_gt (tgt := 43) hx hb dX0_dropFirstOrder_13 (by decide) (fun c3 => ?_) (fun c3 => ?_)
    · have h := ite_t h c3
      obtain rfl := som1 h
      exact end_v F hr hlk hG dX0_dropFirstOrder_43
    · have h := ite_f h c3
      refine lv_aload_n hx hb dX0_dropFirstOrder_16 rfl (lv_at hl 0 rfl) ?_
      refine lv_dup hx hb dX0_dropFirstOrder_17 rfl ?_
      refine xg0 F hG ha0 4 (by decide) (kw426 F.kd) (v := .int (M a0 4)) rfl dX0_dropFirstOrder_18 ?_
      refine lv_iconst (v := 1) hx hb dX0_dropFirstOrder_21 (by decide) ?_
      refine lv_isub hx hb dX0_dropFirstOrder_22 ?_
      obtain ⟨M4, eM4, h⟩ := mlet_e h
      refine xp0 F hG ha0 eM4 rfl (by decide) (kw426 F.kd) rfl rfl rfl dX0_dropFirstOrder_23 (fun H locs hG => ?_)
      refine lv_aload_n hx hb dX0_dropFirstOrder_26 rfl (lv_at hl 0 rfl) ?_
      have hk5 := kt_orders ha0
      refine xg0 F hG ha0 3 (by decide) (kw425 F.kd) (v := .ref (g (a0 + 1))) rfl dX0_dropFirstOrder_27 ?_
      refine lv_iconst (v := 1) hx hb dX0_dropFirstOrder_30 (by decide) ?_
      refine lv_aload_n hx hb dX0_dropFirstOrder_31 rfl (lv_at hl 0 rfl) ?_
      have hk6 := kt_orders ha0
      refine xg0 F hG ha0 3 (by decide) (kw425 F.kd) (v := .ref (g (a0 + 1))) rfl dX0_dropFirstOrder_32 ?_
      refine lv_iconst (v := 0) hx hb dX0_dropFirstOrder_35 (by decide) ?_
      refine lv_aload_n hx hb dX0_dropFirstOrder_36 rfl (lv_at hl 0 rfl) ?_
      refine xg0 F hG ha0 4 (by decide) (kw426 F.kd) (v := .int (M4 a0 4)) rfl dX0_dropFirstOrder_37 ?_
      obtain ⟨hc7, h⟩ := chk_e h
      obtain ⟨M8, eM8, h⟩ := mlet_e h
      refine r_copy F hG hk5 hk6 hc7 eM8 hl.1 (kw279 F.kd) (kw281 F.kd) (kw280 F.kd) (kw13 F.kd) (Nat.le_of_ble_eq_true rfl) (Nat.le_of_ble_eq_true rfl) dX0_dropFirstOrder_40 (fun H locs hG => ?_)
      obtain rfl := som1 h
      exact end_v F hr hlk hG dX0_dropFirstOrder_43
set_option maxHeartbeats 4000000 in
set_option maxRecDepth 100000 in
theorem m_X0_addOrdersTo_L5_w {p : Program} {l : Launch} {e : Env} {s : State} {m : MethodId} {args : Array Value} {below : List Frame} {meth : Method} {c : Code} {Q : State → Prop} {D : va_G} {ca : vCA} {g : Nat → Nat} {fu : Nat} {M : Mem} {q0 : Nat} {out : Int64} (F : FX p m c cX0_addOrdersTo 6 s D ca g RX0) (hq0 : kd q0 = 0)
    (K0 : ∀ (u3 : Int64) (H : Heap) (locs : List Loc) (ls : Array Slot), out = u3 → GW D ca g s M H locs → lv_has ls 6 [(3, .long u3)] → W p l e ({ frames := 0, cells := 0, slots := 0, locals := 0 }) s m args below meth c H locs 0 0 Q (F0 m 42 ls [])) :
    ∀ (n : Nat) (z3 : Int64) (z5 : Int32), m_X0_addOrdersTo_L5 fu M q0 n z3 z5 = some out → ∀ (H : Heap) (locs : List Loc) (ls : Array Slot), GW D ca g s M H locs → lv_has ls 6 [(0, .ref (g q0)), (3, .long z3), (5, .int z5)] → W p l e ({ frames := 0, cells := 0, slots := 0, locals := 0 }) s m args below meth c H locs 0 0 Q (F0 m 5 ls []) := by
  have hx := F.1
  have hb := F.2.1
  intro n
  induction n with
  | zero =>
    intro z3 z5 h
    exact absurd h (by simp [m_X0_addOrdersTo_L5])
  | succ n ih =>
    intro z3 z5 h H locs ls hG hl
    rw [m_X0_addOrdersTo_L5] at h
    refine lv_iload hx hb dX0_addOrdersTo_5 (lv_at hl 2 rfl) ?_
    refine lv_aload_n hx hb dX0_addOrdersTo_7 rfl (lv_at hl 0 rfl) ?_
    refine xg0 F hG hq0 4 (by decide) (kw426 F.kd) (v := .int (M q0 4)) rfl dX0_addOrdersTo_8 ?_
    refine lv_icmp_ge (tgt := 42) hx hb dX0_addOrdersTo_11 (by decide) (fun c3 => ?_) (fun c3 => ?_)
    · have h := ite_t h c3
      exact K0 _ _ _ _ (som1 h).symm hG (lv_sub hl [1] rfl)
    · have h := ite_f h c3
      refine lv_iload hx hb dX0_addOrdersTo_14 (lv_at hl 2 rfl) ?_
      refine lv_bipush (v := 24) hx hb dX0_addOrdersTo_16 (by decide) ?_
      refine lv_icmp_ge (tgt := 42) hx hb dX0_addOrdersTo_18 (by decide) (fun c4 => ?_) (fun c4 => ?_)
      · have h := ite_t h c4
        exact K0 _ _ _ _ (som1 h).symm hG (lv_sub hl [1] rfl)
      · have h := ite_f h c4
        refine lv_lload_n hx hb dX0_addOrdersTo_21 rfl (lv_at hl 1 rfl) ?_
        refine lv_ldc2 (v := 31) hx hb F.2.2.2.1 (kw375 F.kd) dX0_addOrdersTo_22 ?_
        refine lv_lmul hx hb dX0_addOrdersTo_25 ?_
        refine lv_aload_n hx hb dX0_addOrdersTo_26 rfl (lv_at hl 0 rfl) ?_
        have hk5 := kt_orders hq0
        refine xg0 F hG hq0 3 (by decide) (kw425 F.kd) (v := .ref (g (q0 + 1))) rfl dX0_addOrdersTo_27 ?_
        refine lv_iload hx hb dX0_addOrdersTo_30 (lv_at hl 2 rfl) ?_
        obtain ⟨hi6, h⟩ := chk_e h
        refine r_ald F hG hk5 hi6 dX0_addOrdersTo_32 ?_
        refine lv_i2l (v := ((M (q0 + 1) z5.toNatClampNeg) : Int32).toInt64) hx hb dX0_addOrdersTo_33 rfl ?_
        refine lv_ladd hx hb dX0_addOrdersTo_34 ?_
        refine lv_topl (fun x7 ex7 => ?_)
        have h := mlet_n h ex7
        refine lv_lstore_n (lv' := [(3, .long x7), (0, .ref (g q0)), (5, .int z5)]) hx hb dX0_addOrdersTo_35 rfl hl (by decide) rfl (fun ls hl => ?_)
        obtain ⟨x8, ex8, h⟩ := mlet_e h
        refine lv_iinc (v := x8) (lv' := [(5, .int x8), (3, .long x7), (0, .ref (g q0))]) hx hb dX0_addOrdersTo_36 hl (k := 2) rfl (by rw [ex8]; rfl) (by decide) rfl (fun ls hl => ?_)
        refine lv_goto (tgt := 5) hx hb dX0_addOrdersTo_39 (by decide) ?_
        exact ih x7 x8 h _ _ _ hG (lv_sub hl [2, 1, 0] rfl)
set_option maxHeartbeats 4000000 in
set_option maxRecDepth 100000 in
theorem c_X0_addOrdersTo (l : Launch) (D : va_G) (ca : vCA) (g : Nat → Nat) {fu : Nat} {M : Mem} {a0 : Nat} {x1 : Int64} {r : Int64} (ha0 : kd a0 = 0) (h : m_X0_addOrdersTo fu M a0 x1 = some r) : cM l yX0_addOrdersTo cX0_addOrdersTo 6 (some .long) { frames := 0, cells := 0, slots := 0, locals := 0 } D ca g M [.ref (g a0), .long x1] (fun sz => cQl D ca g sz M r) := by
  refine mk_Met (by decide) (Nat.le_of_ble_eq_true rfl) ?_
  intro p e s m below meth c F hr hlk hnm hG ls hl
  have hx := F.1
  have hb := F.2.1
  replace hl : lv_has ls 6 [(0, .ref (g a0)), (1, .long x1)] := hl
  unfold m_X0_addOrdersTo at h
  refine lv_lload_n hx hb dX0_addOrdersTo_0 rfl (lv_at hl 1 rfl) ?_
  refine lv_lstore_n (lv' := [(3, .long x1), (0, .ref (g a0)), (1, .long x1)]) hx hb dX0_addOrdersTo_1 rfl hl (by decide) rfl (fun ls hl => ?_)
  refine lv_iconst (v := 0) hx hb dX0_addOrdersTo_2 (by decide) ?_
  refine lv_istore (lv' := [(5, .int 0), (3, .long x1), (0, .ref (g a0)), (1, .long x1)]) hx hb dX0_addOrdersTo_3 hl (by decide) rfl (fun ls hl => ?_)
  obtain ⟨o9, ho10, h⟩ := cb1_e h
  refine m_X0_addOrdersTo_L5_w (out := o9) F ha0 ?_ _ _ _ ho10 _ _ _ hG (lv_sub hl [2, 1, 0] rfl)
  · intro x11 H locs ls eo hG hl
    subst o9
    refine lv_lload_n hx hb dX0_addOrdersTo_42 rfl (lv_at hl 0 rfl) ?_
    obtain rfl := som1 h
    exact end_l F hr hlk hG dX0_addOrdersTo_43
set_option maxHeartbeats 4000000 in
set_option maxRecDepth 100000 in
theorem c_X0_become (l : Launch) (D : va_G) (ca : vCA) (g : Nat → Nat) {fu : Nat} {M : Mem} {a0 : Nat} {a1 : Nat} {M' : Mem} (ha0 : kd a0 = 0) (ha1 : kd a1 = 0) (h : m_X0_become fu M a0 a1 = some M') : cM l yX0_become cX0_become 2 none { frames := 1, cells := 0, slots := 0, locals := 40 } D ca g M [.ref (g a0), .ref (g a1)] (fun sz => cQv D ca g sz M') := by
  refine mk_Met (by decide) (Nat.le_of_ble_eq_true rfl) ?_
  intro p e s m below meth c F hr hlk hnm hG ls hl
  have hx := F.1
  have hb := F.2.1
  replace hl : lv_has ls 2 [(0, .ref (g a0)), (1, .ref (g a1))] := hl
  unfold m_X0_become at h
  refine lv_aload_n hx hb dX0_become_0 rfl (lv_at hl 0 rfl) ?_
  refine lv_aload_n hx hb dX0_become_1 rfl (lv_at hl 1 rfl) ?_
  refine xg0 F hG ha1 0 (by decide) (kw419 F.kd) (v := .int (M a1 0)) rfl dX0_become_2 ?_
  obtain ⟨M3, eM3, h⟩ := mlet_e h
  refine xp0 F hG ha0 eM3 rfl (by decide) (kw419 F.kd) rfl rfl rfl dX0_become_5 (fun H locs hG => ?_)
  refine lv_aload_n hx hb dX0_become_8 rfl (lv_at hl 0 rfl) ?_
  refine lv_aload_n hx hb dX0_become_9 rfl (lv_at hl 1 rfl) ?_
  refine xg0 F hG ha1 1 (by decide) (kw420 F.kd) (v := .int (M3 a1 1)) rfl dX0_become_10 ?_
  obtain ⟨M4, eM4, h⟩ := mlet_e h
  refine xp0 F hG ha0 eM4 rfl (by decide) (kw420 F.kd) rfl rfl rfl dX0_become_13 (fun H locs hG => ?_)
  refine lv_aload_n hx hb dX0_become_16 rfl (lv_at hl 0 rfl) ?_
  refine lv_aload_n hx hb dX0_become_17 rfl (lv_at hl 1 rfl) ?_
  refine xg0 F hG ha1 2 (by decide) (kw423 F.kd) (v := .int (M4 a1 2)) rfl dX0_become_18 ?_
  obtain ⟨hz5, h⟩ := chk_e h
  obtain ⟨M6, eM6, h⟩ := mlet_e h
  refine xp0 F hG ha0 eM6 rfl (by decide) (kw423 F.kd) rfl (isb_nar hz5).1 (isb_nar hz5).2 dX0_become_21 (fun H locs hG => ?_)
  refine lv_aload_n hx hb dX0_become_24 rfl (lv_at hl 1 rfl) ?_
  have hk7 := kt_orders ha1
  refine xg0 F hG ha1 3 (by decide) (kw425 F.kd) (v := .ref (g (a1 + 1))) rfl dX0_become_25 ?_
  refine lv_iconst (v := 0) hx hb dX0_become_28 (by decide) ?_
  refine lv_aload_n hx hb dX0_become_29 rfl (lv_at hl 0 rfl) ?_
  have hk8 := kt_orders ha0
  refine xg0 F hG ha0 3 (by decide) (kw425 F.kd) (v := .ref (g (a0 + 1))) rfl dX0_become_30 ?_
  refine lv_iconst (v := 0) hx hb dX0_become_33 (by decide) ?_
  refine lv_bipush (v := 24) hx hb dX0_become_34 (by decide) ?_
  obtain ⟨hc9, h⟩ := chk_e h
  obtain ⟨M10, eM10, h⟩ := mlet_e h
  refine r_copy F hG hk7 hk8 hc9 eM10 hl.1 (kw279 F.kd) (kw281 F.kd) (kw280 F.kd) (kw13 F.kd) (Nat.le_of_ble_eq_true rfl) (Nat.le_of_ble_eq_true rfl) dX0_become_36 (fun H locs hG => ?_)
  refine lv_aload_n hx hb dX0_become_39 rfl (lv_at hl 0 rfl) ?_
  refine lv_aload_n hx hb dX0_become_40 rfl (lv_at hl 1 rfl) ?_
  refine xg0 F hG ha1 4 (by decide) (kw426 F.kd) (v := .int (M10 a1 4)) rfl dX0_become_41 ?_
  obtain ⟨M11, eM11, h⟩ := mlet_e h
  refine xp0 F hG ha0 eM11 rfl (by decide) (kw426 F.kd) rfl rfl rfl dX0_become_44 (fun H locs hG => ?_)
  refine lv_aload_n hx hb dX0_become_47 rfl (lv_at hl 0 rfl) ?_
  refine lv_aload_n hx hb dX0_become_48 rfl (lv_at hl 1 rfl) ?_
  refine xg0 F hG ha1 5 (by decide) (kw430 F.kd) (v := .int (M11 a1 5)) rfl dX0_become_49 ?_
  obtain ⟨M12, eM12, h⟩ := mlet_e h
  refine xp0 F hG ha0 eM12 rfl (by decide) (kw430 F.kd) rfl rfl rfl dX0_become_52 (fun H locs hG => ?_)
  obtain rfl := som1 h
  exact end_v F hr hlk hG dX0_become_55

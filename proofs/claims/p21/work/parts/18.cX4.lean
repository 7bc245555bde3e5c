set_option maxHeartbeats 4000000 in
set_option maxRecDepth 100000 in
theorem m_J7_fill_53178_L5_w {p : Program} {l : Launch} {e : Env} {s : State} {m : MethodId} {args : Array Value} {below : List Frame} {meth : Method} {c : Code} {Q : State → Prop} {D : va_G} {ca : vCA} {g : Nat → Nat} {fu : Nat} {q0 : Nat} {y1 : Int32} {y3 : Int32} {out : Mem} (F : FX p m c cJ7_fill_53178 4 s D ca g RJ7) (hq0 : kd q0 = 8)
    (K0 : ∀ (M1 : Mem) (H : Heap) (locs : List Loc) (ls : Array Slot), out = M1 → GW D ca g s M1 H locs → lv_has ls 4 [] → W p l e ({ frames := 0, cells := 0, slots := 0, locals := 0 }) s m args below meth c H locs 0 0 Q (F0 m 20 ls [])) :
    ∀ (n : Nat) (M : Mem) (z2 : Int32), m_J7_fill_53178_L5 fu q0 y1 y3 n M z2 = some out → ∀ (H : Heap) (locs : List Loc) (ls : Array Slot), GW D ca g s M H locs → lv_has ls 4 [(0, .ref (g q0)), (1, .int y1), (2, .int z2), (3, .int y3)] → W p l e ({ frames := 0, cells := 0, slots := 0, locals := 0 }) s m args below meth c H locs 0 0 Q (F0 m 5 ls []) := by
  have hx := F.1
  have hb := F.2.1
  intro n
  induction n with
  | zero =>
    intro M z2 h
    exact absurd h (by simp [m_J7_fill_53178_L5])
  | succ n ih =>
    intro M z2 h H locs ls hG hl
    rw [m_J7_fill_53178_L5] at h
    refine lv_iload_n hx hb dJ7_fill_53178_5 rfl (lv_at hl 2 rfl) ?_
    refine lv_iload_n hx hb dJ7_fill_53178_6 rfl (lv_at hl 3 rfl) ?_
    refine lv_icmp_ge (tgt := 20) hx hb dJ7_fill_53178_7 (by decide) (fun c4 => ?_) (fun c4 => ?_)
    · have h := ite_t h c4
      exact K0 _ _ _ _ (som1 h).symm hG (lv_sub hl [] rfl)
    · have h := ite_f h c4
      refine lv_aload_n hx hb dJ7_fill_53178_10 rfl (lv_at hl 0 rfl) ?_
      refine lv_iload_n hx hb dJ7_fill_53178_11 rfl (lv_at hl 2 rfl) ?_
      refine lv_iload_n hx hb dJ7_fill_53178_12 rfl (lv_at hl 1 rfl) ?_
      obtain ⟨hi5, h⟩ := chk_e h
      obtain ⟨M6, eM6, h⟩ := mlet_e h
      refine r_ast F hG hq0 hi5 eM6 dJ7_fill_53178_13 (fun H locs hG => ?_)
      obtain ⟨x7, ex7, h⟩ := mlet_e h
      refine lv_iinc (v := x7) (lv' := [(2, .int x7), (0, .ref (g q0)), (1, .int y1), (3, .int y3)]) hx hb dJ7_fill_53178_14 hl (k := 2) rfl (by rw [ex7]; rfl) (by decide) rfl (fun ls hl => ?_)
      refine lv_goto (tgt := 5) hx hb dJ7_fill_53178_17 (by decide) ?_
      exact ih M6 x7 h _ _ _ hG (lv_sub hl [1, 2, 0, 3] rfl)
set_option maxHeartbeats 4000000 in
set_option maxRecDepth 100000 in
theorem c_J7_fill_53178 (l : Launch) (D : va_G) (ca : vCA) (g : Nat → Nat) {fu : Nat} {M : Mem} {a0 : Nat} {x1 : Int32} {M' : Mem} (ha0 : kd a0 = 8) (h : m_J7_fill_53178 fu M a0 x1 = some M') : cM l yJ7_fill_53178 cJ7_fill_53178 4 none { frames := 0, cells := 0, slots := 0, locals := 0 } D ca g M [.ref (g a0), .int x1] (fun sz => cQv D ca g sz M') := by
  refine mk_Met (by decide) (Nat.le_of_ble_eq_true rfl) ?_
  intro p e s m below meth c F hr hlk hnm hG ls hl
  have hx := F.1
  have hb := F.2.1
  replace hl : lv_has ls 4 [(0, .ref (g a0)), (1, .int x1)] := hl
  unfold m_J7_fill_53178 at h
  refine lv_iconst (v := 0) hx hb dJ7_fill_53178_0 (by decide) ?_
  refine lv_istore_n (lv' := [(2, .int 0), (0, .ref (g a0)), (1, .int x1)]) hx hb dJ7_fill_53178_1 rfl hl (by decide) rfl (fun ls hl => ?_)
  refine lv_aload_n hx hb dJ7_fill_53178_2 rfl (lv_at hl 1 rfl) ?_
  refine r_alen F hG ha0 (v := (Int32.ofNat (alen a0))) rfl dJ7_fill_53178_3 ?_
  refine lv_topi (fun x3 ex3 => ?_)
  have h := mlet_n h ex3
  refine lv_istore_n (lv' := [(3, .int x3), (2, .int 0), (0, .ref (g a0)), (1, .int x1)]) hx hb dJ7_fill_53178_4 rfl hl (by decide) rfl (fun ls hl => ?_)
  obtain ⟨o8, ho9, h⟩ := cb1_e h
  refine m_J7_fill_53178_L5_w (out := o8) F ha0 ?_ _ _ _ ho9 _ _ _ hG (lv_sub hl [2, 3, 1, 0] rfl)
  · intro M10 H locs ls eo hG hl
    subst o8
    obtain rfl := som1 h
    exact end_v F hr hlk hG dJ7_fill_53178_20
set_option maxHeartbeats 4000000 in
set_option maxRecDepth 100000 in
theorem c_X4_startAnew (l : Launch) (D : va_G) (ca : vCA) (g : Nat → Nat) {fu : Nat} {M : Mem} {a0 : Nat} {M' : Mem} (ha0 : kd a0 = 4) (h : m_X4_startAnew fu M a0 = some M') : cM l yX4_startAnew cX4_startAnew 1 none { frames := 1, cells := 0, slots := 0, locals := 23 } D ca g M [.ref (g a0)] (fun sz => cQv D ca g sz M') := by
  refine mk_Met (by decide) (Nat.le_of_ble_eq_true rfl) ?_
  intro p e s m below meth c F hr hlk hnm hG ls hl
  have hx := F.1
  have hb := F.2.1
  replace hl : lv_has ls 1 [(0, .ref (g a0))] := hl
  unfold m_X4_startAnew at h
  refine lv_aload_n hx hb dX4_startAnew_0 rfl (lv_at hl 0 rfl) ?_
  have hk2 := kt_far ha0
  refine xg4 F hG ha0 0 (by decide) (kw495 F.kd) (v := .ref (g (a0 + 1))) rfl dX4_startAnew_1 ?_
  refine lv_iconst (v := (-1)) hx hb dX4_startAnew_4 (by decide) ?_
  obtain ⟨M5, hc3, h⟩ := cb1_e h
  refine k_v (r_runS F hG (c_J7_fill_53178 l D ca g hk2 hc3) (kw209 F.kd) (kw210 F.kd) (kw15 F.kd) (kw211 F.kd) yd_J7_fill_53178 ⟨Nat.le_of_ble_eq_true rfl, Nat.le_of_ble_eq_true rfl⟩ rfl hl.1 rfl (Nat.le_of_ble_eq_true rfl) dX4_startAnew_5 ⟨Nat.le_of_ble_eq_true rfl, Nat.le_of_ble_eq_true rfl⟩) hG (fun H locs hG => ?_)
  refine lv_aload_n hx hb dX4_startAnew_8 rfl (lv_at hl 0 rfl) ?_
  refine lv_bipush (v := 108) hx hb dX4_startAnew_9 (by decide) ?_
  obtain ⟨M6, eM6, h⟩ := mlet_e h
  refine xp4 F hG ha0 eM6 rfl (by decide) (kw497 F.kd) rfl rfl rfl dX4_startAnew_11 (fun H locs hG => ?_)
  refine lv_aload_n hx hb dX4_startAnew_14 rfl (lv_at hl 0 rfl) ?_
  refine lv_bipush (v := 108) hx hb dX4_startAnew_15 (by decide) ?_
  obtain ⟨M7, eM7, h⟩ := mlet_e h
  refine xp4 F hG ha0 eM7 rfl (by decide) (kw498 F.kd) rfl rfl rfl dX4_startAnew_17 (fun H locs hG => ?_)
  obtain rfl := som1 h
  exact end_v F hr hlk hG dX4_startAnew_20
set_option maxHeartbeats 4000000 in
set_option maxRecDepth 100000 in
theorem c_X4_putLast (l : Launch) (D : va_G) (ca : vCA) (g : Nat → Nat) {fu : Nat} {M : Mem} {a0 : Nat} {x1 : Int32} {x2 : Int32} {M' : Mem} (ha0 : kd a0 = 4) (h : m_X4_putLast fu M a0 x1 x2 = some M') : cM l yX4_putLast cX4_putLast 3 none { frames := 0, cells := 0, slots := 0, locals := 0 } D ca g M [.ref (g a0), .int x1, .int x2] (fun sz => cQv D ca g sz M') := by
  refine mk_Met (by decide) (Nat.le_of_ble_eq_true rfl) ?_
  intro p e s m below meth c F hr hlk hnm hG ls hl
  have hx := F.1
  have hb := F.2.1
  replace hl : lv_has ls 3 [(0, .ref (g a0)), (1, .int x1), (2, .int x2)] := hl
  unfold m_X4_putLast at h
  refine lv_aload_n hx hb dX4_putLast_0 rfl (lv_at hl 0 rfl) ?_
  refine xg4 F hG ha0 3 (by decide) (kw498 F.kd) (v := .int (M a0 3)) rfl dX4_putLast_1 ?_
  refine lv_aload_n hx hb dX4_putLast_4 rfl (lv_at hl 0 rfl) ?_
  have hk4 := kt_line ha0
  refine xg4 F hG ha0 1 (by decide) (kw496 F.kd) (v := .ref (g (a0 + 2))) rfl dX4_putLast_5 ?_
  refine r_alen F hG hk4 (v := (Int32.ofNat (alen (a0 + 2)))) rfl dX4_putLast_8 ?_
  refine lv_icmp_ge (tgt := 39) hx hb dX4_putLast_9 (by decide) (fun c5 => ?_) (fun c5 => ?_)
  · have h := ite_t h c5
    obtain rfl := som1 h
    exact end_v F hr hlk hG dX4_putLast_39
  · have h := ite_f h c5
    refine lv_aload_n hx hb dX4_putLast_12 rfl (lv_at hl 0 rfl) ?_
    have hk6 := kt_far ha0
    refine xg4 F hG ha0 0 (by decide) (kw495 F.kd) (v := .ref (g (a0 + 1))) rfl dX4_putLast_13 ?_
    refine lv_iload_n hx hb dX4_putLast_16 rfl (lv_at hl 1 rfl) ?_
    refine lv_iload_n hx hb dX4_putLast_17 rfl (lv_at hl 2 rfl) ?_
    obtain ⟨hi7, h⟩ := chk_e h
    obtain ⟨M8, eM8, h⟩ := mlet_e h
    refine r_ast F hG hk6 hi7 eM8 dX4_putLast_18 (fun H locs hG => ?_)
    refine lv_aload_n hx hb dX4_putLast_19 rfl (lv_at hl 0 rfl) ?_
    have hk9 := kt_line ha0
    refine xg4 F hG ha0 1 (by decide) (kw496 F.kd) (v := .ref (g (a0 + 2))) rfl dX4_putLast_20 ?_
    refine lv_aload_n hx hb dX4_putLast_23 rfl (lv_at hl 0 rfl) ?_
    refine xg4 F hG ha0 3 (by decide) (kw498 F.kd) (v := .int (M8 a0 3)) rfl dX4_putLast_24 ?_
    refine lv_iload_n hx hb dX4_putLast_27 rfl (lv_at hl 1 rfl) ?_
    obtain ⟨hi10, h⟩ := chk_e h
    obtain ⟨M11, eM11, h⟩ := mlet_e h
    refine r_ast F hG hk9 hi10 eM11 dX4_putLast_28 (fun H locs hG => ?_)
    refine lv_aload_n hx hb dX4_putLast_29 rfl (lv_at hl 0 rfl) ?_
    refine lv_dup hx hb dX4_putLast_30 rfl ?_
    refine xg4 F hG ha0 3 (by decide) (kw498 F.kd) (v := .int (M11 a0 3)) rfl dX4_putLast_31 ?_
    refine lv_iconst (v := 1) hx hb dX4_putLast_34 (by decide) ?_
    refine lv_iadd hx hb dX4_putLast_35 ?_
    obtain ⟨M12, eM12, h⟩ := mlet_e h
    refine xp4 F hG ha0 eM12 rfl (by decide) (kw498 F.kd) rfl rfl rfl dX4_putLast_36 (fun H locs hG => ?_)
    obtain rfl := som1 h
    exact end_v F hr hlk hG dX4_putLast_39
set_option maxHeartbeats 4000000 in
set_option maxRecDepth 100000 in
theorem c_X4_putFirst (l : Launch) (D : va_G) (ca : vCA) (g : Nat → Nat) {fu : Nat} {M : Mem} {a0 : Nat} {x1 : Int32} {x2 : Int32} {M' : Mem} (ha0 : kd a0 = 4) (h : m_X4_putFirst fu M a0 x1 x2 = some M') : cM l yX4_putFirst cX4_putFirst 3 none { frames := 0, cells := 0, slots := 0, locals := 0 } D ca g M [.ref (g a0), .int x1, .int x2] (fun sz => cQv D ca g sz M') := by
  refine mk_Met (by decide) (Nat.le_of_ble_eq_true rfl) ?_
  intro p e s m below meth c F hr hlk hnm hG ls hl
  have hx := F.1
  have hb := F.2.1
  replace hl : lv_has ls 3 [(0, .ref (g a0)), (1, .int x1), (2, .int x2)] := hl
  unfold m_X4_putFirst at h
  refine lv_aload_n hx hb dX4_putFirst_0 rfl (lv_at hl 0 rfl) ?_
  refine xg4 F hG ha0 2 (by decide) (kw497 F.kd) (v := .int (M a0 2)) rfl dX4_putFirst_1 ?_
  refine lv_if_le (tgt := 34) hx hb dX4_putFirst_4 (by decide) (fun c4 => ?_) (fun c4 => ?_)
  · have h := ite_t h c4
    obtain rfl := som1 h
    exact end_v F hr hlk hG dX4_putFirst_34
  · have h := ite_f h c4
    refine lv_aload_n hx hb dX4_putFirst_7 rfl (lv_at hl 0 rfl) ?_
    have hk5 := kt_far ha0
    refine xg4 F hG ha0 0 (by decide) (kw495 F.kd) (v := .ref (g (a0 + 1))) rfl dX4_putFirst_8 ?_
    refine lv_iload_n hx hb dX4_putFirst_11 rfl (lv_at hl 1 rfl) ?_
    refine lv_iload_n hx hb dX4_putFirst_12 rfl (lv_at hl 2 rfl) ?_
    obtain ⟨hi6, h⟩ := chk_e h
    obtain ⟨M7, eM7, h⟩ := mlet_e h
    refine r_ast F hG hk5 hi6 eM7 dX4_putFirst_13 (fun H locs hG => ?_)
    refine lv_aload_n hx hb dX4_putFirst_14 rfl (lv_at hl 0 rfl) ?_
    refine lv_dup hx hb dX4_putFirst_15 rfl ?_
    refine xg4 F hG ha0 2 (by decide) (kw497 F.kd) (v := .int (M7 a0 2)) rfl dX4_putFirst_16 ?_
    refine lv_iconst (v := 1) hx hb dX4_putFirst_19 (by decide) ?_
    refine lv_isub hx hb dX4_putFirst_20 ?_
    obtain ⟨M8, eM8, h⟩ := mlet_e h
    refine xp4 F hG ha0 eM8 rfl (by decide) (kw497 F.kd) rfl rfl rfl dX4_putFirst_21 (fun H locs hG => ?_)
    refine lv_aload_n hx hb dX4_putFirst_24 rfl (lv_at hl 0 rfl) ?_
    have hk9 := kt_line ha0
    refine xg4 F hG ha0 1 (by decide) (kw496 F.kd) (v := .ref (g (a0 + 2))) rfl dX4_putFirst_25 ?_
    refine lv_aload_n hx hb dX4_putFirst_28 rfl (lv_at hl 0 rfl) ?_
    refine xg4 F hG ha0 2 (by decide) (kw497 F.kd) (v := .int (M8 a0 2)) rfl dX4_putFirst_29 ?_
    refine lv_iload_n hx hb dX4_putFirst_32 rfl (lv_at hl 1 rfl) ?_
    obtain ⟨hi10, h⟩ := chk_e h
    obtain ⟨M11, eM11, h⟩ := mlet_e h
    refine r_ast F hG hk9 hi10 eM11 dX4_putFirst_33 (fun H locs hG => ?_)
    obtain rfl := som1 h
    exact end_v F hr hlk hG dX4_putFirst_34
set_option maxHeartbeats 4000000 in
set_option maxRecDepth 100000 in
theorem c_X4_lead (l : Launch) (D : va_G) (ca : vCA) (g : Nat → Nat) {fu : Nat} {M : Mem} {a0 : Nat} {a1 : Nat} {x2 : Int32} {x3 : Int32} {M' : Mem} (ha0 : kd a0 = 4) (ha1 : kd a1 = 3) (h : m_X4_lead fu M a0 a1 x2 x3 = some M') : cM l yX4_lead cX4_lead 4 none { frames := 2, cells := 0, slots := 0, locals := 42 } D ca g M [.ref (g a0), .ref (g a1), .int x2, .int x3] (fun sz => cQv D ca g sz M') := by
  refine mk_Met (by decide) (Nat.le_of_ble_eq_true rfl) ?_
  intro p e s m below meth c F hr hlk hnm hG ls hl
  have hx := F.1
  have hb := F.2.1
  replace hl : lv_has ls 4 [(0, .ref (g a0)), (1, .ref (g a1)), (2, .int x2), (3, .int x3)] := hl
  unfold m_X4_lead at h
  refine lv_aload_n hx hb dX4_lead_0 rfl (lv_at hl 0 rfl) ?_
  have hk5 := kt_far ha0
  refine xg4 F hG ha0 0 (by decide) (kw495 F.kd) (v := .ref (g (a0 + 1))) rfl dX4_lead_1 ?_
  refine lv_iload_n hx hb dX4_lead_4 rfl (lv_at hl 2 rfl) ?_
  obtain ⟨hi6, h⟩ := chk_e h
  refine r_ald F hG hk5 hi6 dX4_lead_5 ?_
  refine lv_iconst (v := (-1)) hx hb dX4_lead_6 (by decide) ?_
  refine lv_icmp_eq (tgt := 11) hx hb dX4_lead_7 (by decide) (fun c7 => ?_) (fun c7 => ?_)
  · have h := ite_t h c7
    refine lv_aload_n hx hb dX4_lead_11 rfl (lv_at hl 1 rfl) ?_
    refine lv_iload_n hx hb dX4_lead_12 rfl (lv_at hl 2 rfl) ?_
    obtain ⟨r9, hc8, h⟩ := cb1_e h
    refine k_i (r_runVN F hG (c_X3_isFree l D ca g ha1 hc8) (kd_lt ha1 (by decide)) (gd3 ha1) rfl (kw200 F.kd) (kw202 F.kd) (ks_X3_isFree F.kd) (kw3 F.kd) (kw203 F.kd) yd_X3_isFree ⟨Nat.le_of_ble_eq_true rfl, Nat.le_of_ble_eq_true rfl⟩ rfl hl.1 rfl (Nat.le_of_ble_eq_true rfl) dX4_lead_13 ⟨Nat.le_of_ble_eq_true rfl, Nat.le_of_ble_eq_true rfl⟩) hG (fun H locs hG => ?_)
    refine lv_if_eq (tgt := 30) hx hb dX4_lead_16 (by decide) (fun c10 => ?_) (fun c10 => ?_)
    · have h := ite_t h c10
      refine lv_aload_n hx hb dX4_lead_30 rfl (lv_at hl 0 rfl) ?_
      refine lv_iload_n hx hb dX4_lead_31 rfl (lv_at hl 2 rfl) ?_
      refine lv_iload_n hx hb dX4_lead_32 rfl (lv_at hl 3 rfl) ?_
      obtain ⟨M13, hc11, h⟩ := cb1_e h
      refine k_v (r_runV F hG (c_X4_putFirst l D ca g ha0 hc11) (kd_lt ha0 (by decide)) (gd4 ha0) rfl (kw231 F.kd) (kw233 F.kd) (ks_X4_putFirst F.kd) (kw6 F.kd) (kw234 F.kd) yd_X4_putFirst ⟨Nat.le_of_ble_eq_true rfl, Nat.le_of_ble_eq_true rfl⟩ rfl hl.1 rfl (Nat.le_of_ble_eq_true rfl) dX4_lead_33 ⟨Nat.le_of_ble_eq_true rfl, Nat.le_of_ble_eq_true rfl⟩) hG (fun H locs hG => ?_)
      obtain rfl := som1 h
      exact end_v F hr hlk hG dX4_lead_36
    · have h := ite_f h c10
      refine lv_aload_n hx hb dX4_lead_19 rfl (lv_at hl 0 rfl) ?_
      refine lv_iload_n hx hb dX4_lead_20 rfl (lv_at hl 2 rfl) ?_
      refine lv_iload_n hx hb dX4_lead_21 rfl (lv_at hl 3 rfl) ?_
      refine lv_iconst (v := 1) hx hb dX4_lead_22 (by decide) ?_
      refine lv_iadd hx hb dX4_lead_23 ?_
      obtain ⟨M16, hc14, h⟩ := cb1_e h
      refine k_v (r_runV F hG (c_X4_putLast l D ca g ha0 hc14) (kd_lt ha0 (by decide)) (gd4 ha0) rfl (kw212 F.kd) (kw214 F.kd) (ks_X4_putLast F.kd) (kw6 F.kd) (kw215 F.kd) yd_X4_putLast ⟨Nat.le_of_ble_eq_true rfl, Nat.le_of_ble_eq_true rfl⟩ rfl hl.1 rfl (Nat.le_of_ble_eq_true rfl) dX4_lead_24 ⟨Nat.le_of_ble_eq_true rfl, Nat.le_of_ble_eq_true rfl⟩) hG (fun H locs hG => ?_)
      refine lv_goto (tgt := 36) hx hb dX4_lead_27 (by decide) ?_
      obtain rfl := som1 h
      exact end_v F hr hlk hG dX4_lead_36
  · have h := ite_f h c7
    obtain rfl := som1 h
    exact end_v F hr hlk hG dX4_lead_10
set_option maxHeartbeats 4000000 in
set_option maxRecDepth 100000 in
theorem m_X4_leadAround_L46_w {p : Program} {l : Launch} {e : Env} {s : State} {m : MethodId} {args : Array Value} {below : List Frame} {meth : Method} {c : Code} {Q : State → Prop} {D : va_G} {ca : vCA} {g : Nat → Nat} {fu : Nat} {q0 : Nat} {q1 : Nat} {y2 : Int32} {y3 : Int32} {y4 : Int32} {y5 : Int32} {out : Mem} (F : FX p m c cX4_leadAround 7 s D ca g RX4) (hq0 : kd q0 = 4) (hq1 : kd q1 = 3)
    (K0 : ∀ (M1 : Mem) (H : Heap) (locs : List Loc) (ls : Array Slot), out = M1 → GW D ca g s M1 H locs → lv_has ls 7 [(0, .ref (g q0)), (1, .ref (g q1)), (2, .int y2), (3, .int y3), (4, .int y4), (5, .int y5)] → W p l e ({ frames := 3, cells := 0, slots := 0, locals := 65 }) s m args below meth c H locs 0 0 Q (F0 m 86 ls [])) :
    ∀ (n : Nat) (M : Mem) (z6 : Int32), m_X4_leadAround_L46 fu q0 q1 y2 y3 y4 y5 n M z6 = some out → ∀ (H : Heap) (locs : List Loc) (ls : Array Slot), GW D ca g s M H locs → lv_has ls 7 [(0, .ref (g q0)), (1, .ref (g q1)), (2, .int y2), (3, .int y3), (4, .int y4), (5, .int y5), (6, .int z6)] → W p l e ({ frames := 3, cells := 0, slots := 0, locals := 65 }) s m args below meth c H locs 0 0 Q (F0 m 46 ls []) := by
  have hx := F.1
  have hb := F.2.1
  intro n
  induction n with
  | zero =>
    intro M z6 h
    exact absurd h (by simp [m_X4_leadAround_L46])
  | succ n ih =>
    intro M z6 h H locs ls hG hl
    rw [m_X4_leadAround_L46] at h
    refine lv_iload hx hb dX4_leadAround_46 (lv_at hl 6 rfl) ?_
    refine lv_iload_n hx hb dX4_leadAround_48 rfl (lv_at hl 3 rfl) ?_
    refine lv_iconst (v := 1) hx hb dX4_leadAround_49 (by decide) ?_
    refine lv_iadd hx hb dX4_leadAround_50 ?_
    refine lv_icmp_gt (tgt := 86) hx hb dX4_leadAround_51 (by decide) (fun c12 => ?_) (fun c12 => ?_)
    · have h := ite_t h c12
      exact K0 _ _ _ _ (som1 h).symm hG (lv_sub hl [0, 1, 2, 3, 4, 5] rfl)
    · have h := ite_f h c12
      refine lv_iload hx hb dX4_leadAround_54 (lv_at hl 6 rfl) ?_
      refine lv_bipush (v := 12) hx hb dX4_leadAround_56 (by decide) ?_
      refine lv_icmp_ge (tgt := 86) hx hb dX4_leadAround_58 (by decide) (fun c13 => ?_) (fun c13 => ?_)
      · have h := ite_t h c13
        exact K0 _ _ _ _ (som1 h).symm hG (lv_sub hl [0, 1, 2, 3, 4, 5] rfl)
      · have h := ite_f h c13
        refine lv_aload_n hx hb dX4_leadAround_61 rfl (lv_at hl 0 rfl) ?_
        refine lv_aload_n hx hb dX4_leadAround_62 rfl (lv_at hl 1 rfl) ?_
        refine lv_bipush (v := 12) hx hb dX4_leadAround_63 (by decide) ?_
        refine lv_iload hx hb dX4_leadAround_65 (lv_at hl 5 rfl) ?_
        refine lv_imul hx hb dX4_leadAround_67 ?_
        refine lv_iload hx hb dX4_leadAround_68 (lv_at hl 6 rfl) ?_
        refine lv_iadd hx hb dX4_leadAround_70 ?_
        refine lv_aload_n hx hb dX4_leadAround_71 rfl (lv_at hl 0 rfl) ?_
        have hk14 := kt_far hq0
        refine xg4 F hG hq0 0 (by decide) (kw495 F.kd) (v := .ref (g (q0 + 1))) rfl dX4_leadAround_72 ?_
        refine lv_iload_n hx hb dX4_leadAround_75 rfl (lv_at hl 2 rfl) ?_
        obtain ⟨hi15, h⟩ := chk_e h
        refine r_ald F hG hk14 hi15 dX4_leadAround_76 ?_
        obtain ⟨M18, hc16, h⟩ := cb1_e h
        refine k_v (r_runV F hG (c_X4_lead l D ca g hq0 hq1 hc16) (kd_lt hq0 (by decide)) (gd4 hq0) rfl (kw227 F.kd) (kw229 F.kd) (ks_X4_lead F.kd) (kw6 F.kd) (kw230 F.kd) yd_X4_lead ⟨Nat.le_of_ble_eq_true rfl, Nat.le_of_ble_eq_true rfl⟩ rfl hl.1 rfl (Nat.le_of_ble_eq_true rfl) dX4_leadAround_77 ⟨Nat.le_of_ble_eq_true rfl, Nat.le_of_ble_eq_true rfl⟩) hG (fun H locs hG => ?_)
        obtain ⟨x19, ex19, h⟩ := mlet_e h
        refine lv_iinc (v := x19) (lv' := [(6, .int x19), (0, .ref (g q0)), (1, .ref (g q1)), (2, .int y2), (3, .int y3), (4, .int y4), (5, .int y5)]) hx hb dX4_leadAround_80 hl (k := 6) rfl (by rw [ex19]; rfl) (by decide) rfl (fun ls hl => ?_)
        refine lv_goto (tgt := 46) hx hb dX4_leadAround_83 (by decide) ?_
        exact ih M18 x19 h _ _ _ hG (lv_sub hl [1, 2, 3, 4, 5, 6, 0] rfl)
set_option maxHeartbeats 4000000 in
set_option maxRecDepth 100000 in
theorem m_X4_leadAround_L21_w {p : Program} {l : Launch} {e : Env} {s : State} {m : MethodId} {args : Array Value} {below : List Frame} {meth : Method} {c : Code} {Q : State → Prop} {D : va_G} {ca : vCA} {g : Nat → Nat} {fu : Nat} {q0 : Nat} {q1 : Nat} {y2 : Int32} {y3 : Int32} {y4 : Int32} {out : Mem} (F : FX p m c cX4_leadAround 7 s D ca g RX4) (hq0 : kd q0 = 4) (hq1 : kd q1 = 3)
    (K0 : ∀ (M1 : Mem) (H : Heap) (locs : List Loc) (ls : Array Slot), out = M1 → GW D ca g s M1 H locs → lv_has ls 7 [] → W p l e ({ frames := 3, cells := 0, slots := 0, locals := 65 }) s m args below meth c H locs 0 0 Q (F0 m 92 ls [])) :
    ∀ (n : Nat) (M : Mem) (z5 : Int32), m_X4_leadAround_L21 fu q0 q1 y2 y3 y4 n M z5 = some out → ∀ (H : Heap) (locs : List Loc) (ls : Array Slot), GW D ca g s M H locs → lv_has ls 7 [(0, .ref (g q0)), (1, .ref (g q1)), (2, .int y2), (3, .int y3), (4, .int y4), (5, .int z5)] → W p l e ({ frames := 3, cells := 0, slots := 0, locals := 65 }) s m args below meth c H locs 0 0 Q (F0 m 21 ls []) := by
  have hx := F.1
  have hb := F.2.1
  intro n
  induction n with
  | zero =>
    intro M z5 h
    exact absurd h (by simp [m_X4_leadAround_L21])
  | succ n ih =>
    intro M z5 h H locs ls hG hl
    rw [m_X4_leadAround_L21] at h
    refine lv_iload hx hb dX4_leadAround_21 (lv_at hl 5 rfl) ?_
    refine lv_iload hx hb dX4_leadAround_23 (lv_at hl 4 rfl) ?_
    refine lv_iconst (v := 1) hx hb dX4_leadAround_25 (by decide) ?_
    refine lv_iadd hx hb dX4_leadAround_26 ?_
    refine lv_icmp_gt (tgt := 92) hx hb dX4_leadAround_27 (by decide) (fun c8 => ?_) (fun c8 => ?_)
    · have h := ite_t h c8
      exact K0 _ _ _ _ (som1 h).symm hG (lv_sub hl [] rfl)
    · have h := ite_f h c8
      refine lv_iload hx hb dX4_leadAround_30 (lv_at hl 5 rfl) ?_
      refine lv_bipush (v := 9) hx hb dX4_leadAround_32 (by decide) ?_
      refine lv_icmp_ge (tgt := 92) hx hb dX4_leadAround_34 (by decide) (fun c9 => ?_) (fun c9 => ?_)
      · have h := ite_t h c9
        exact K0 _ _ _ _ (som1 h).symm hG (lv_sub hl [] rfl)
      · have h := ite_f h c9
        refine lv_iload_n hx hb dX4_leadAround_37 rfl (lv_at hl 3 rfl) ?_
        refine lv_iconst (v := 1) hx hb dX4_leadAround_38 (by decide) ?_
        refine lv_isub hx hb dX4_leadAround_39 ?_
        refine lv_iconst (v := 0) hx hb dX4_leadAround_40 (by decide) ?_
        obtain ⟨x10, ex10, h⟩ := mlet_e h
        rw [← ex10]
        refine va_mmax hx hb (F.2.2.1.trans hl.1.symm) F.2.2.2.1 (kw239 F.kd) (kw240 F.kd) (kw14 F.kd) (kw241 F.kd) (Nat.le_of_ble_eq_true rfl) (Nat.le_of_ble_eq_true rfl) (Nat.zero_le _) (Nat.zero_le _) dX4_leadAround_41 ?_
        refine lv_topi (fun x11 ex11 => ?_)
        have h := mlet_n h ex11
        refine lv_istore (lv' := [(6, .int x11), (0, .ref (g q0)), (1, .ref (g q1)), (2, .int y2), (3, .int y3), (4, .int y4), (5, .int z5)]) hx hb dX4_leadAround_44 hl (by decide) rfl (fun ls hl => ?_)
        obtain ⟨o20, ho21, h⟩ := cb1_e h
        refine m_X4_leadAround_L46_w (out := o20) F hq0 hq1 ?_ _ _ _ ho21 _ _ _ hG (lv_sub hl [1, 2, 3, 4, 5, 6, 0] rfl)
        · intro M22 H locs ls eo hG hl
          subst o20
          obtain ⟨x23, ex23, h⟩ := mlet_e h
          refine lv_iinc (v := x23) (lv' := [(5, .int x23), (0, .ref (g q0)), (1, .ref (g q1)), (2, .int y2), (3, .int y3), (4, .int y4)]) hx hb dX4_leadAround_86 hl (k := 5) rfl (by rw [ex23]; rfl) (by decide) rfl (fun ls hl => ?_)
          refine lv_goto (tgt := 21) hx hb dX4_leadAround_89 (by decide) ?_
          exact ih M22 x23 h _ _ _ hG (lv_sub hl [1, 2, 3, 4, 5, 0] rfl)
set_option maxHeartbeats 4000000 in
set_option maxRecDepth 100000 in
theorem c_X4_leadAround (l : Launch) (D : va_G) (ca : vCA) (g : Nat → Nat) {fu : Nat} {M : Mem} {a0 : Nat} {a1 : Nat} {x2 : Int32} {M' : Mem} (ha0 : kd a0 = 4) (ha1 : kd a1 = 3) (h : m_X4_leadAround fu M a0 a1 x2 = some M') : cM l yX4_leadAround cX4_leadAround 7 none { frames := 3, cells := 0, slots := 0, locals := 65 } D ca g M [.ref (g a0), .ref (g a1), .int x2] (fun sz => cQv D ca g sz M') := by
  refine mk_Met (by decide) (Nat.le_of_ble_eq_true rfl) ?_
  intro p e s m below meth c F hr hlk hnm hG ls hl
  have hx := F.1
  have hb := F.2.1
  replace hl : lv_has ls 7 [(0, .ref (g a0)), (1, .ref (g a1)), (2, .int x2)] := hl
  unfold m_X4_leadAround at h
  refine lv_iload_n hx hb dX4_leadAround_0 rfl (lv_at hl 2 rfl) ?_
  refine lv_bipush (v := 12) hx hb dX4_leadAround_1 (by decide) ?_
  refine lv_irem hx hb dX4_leadAround_3 (by decide) ?_
  refine lv_topi (fun x4 ex4 => ?_)
  have h := mlet_n h ex4
  refine lv_istore_n (lv' := [(3, .int x4), (0, .ref (g a0)), (1, .ref (g a1)), (2, .int x2)]) hx hb dX4_leadAround_4 rfl hl (by decide) rfl (fun ls hl => ?_)
  refine lv_iload_n hx hb dX4_leadAround_5 rfl (lv_at hl 3 rfl) ?_
  refine lv_bipush (v := 12) hx hb dX4_leadAround_6 (by decide) ?_
  refine lv_idiv hx hb dX4_leadAround_8 (by decide) ?_
  refine lv_topi (fun x5 ex5 => ?_)
  have h := mlet_n h ex5
  refine lv_istore (lv' := [(4, .int x5), (3, .int x4), (0, .ref (g a0)), (1, .ref (g a1)), (2, .int x2)]) hx hb dX4_leadAround_9 hl (by decide) rfl (fun ls hl => ?_)
  refine lv_iload hx hb dX4_leadAround_11 (lv_at hl 0 rfl) ?_
  refine lv_iconst (v := 1) hx hb dX4_leadAround_13 (by decide) ?_
  refine lv_isub hx hb dX4_leadAround_14 ?_
  refine lv_iconst (v := 0) hx hb dX4_leadAround_15 (by decide) ?_
  obtain ⟨x6, ex6, h⟩ := mlet_e h
  rw [← ex6]
  refine va_mmax hx hb (F.2.2.1.trans hl.1.symm) F.2.2.2.1 (kw239 F.kd) (kw240 F.kd) (kw14 F.kd) (kw241 F.kd) (Nat.le_of_ble_eq_true rfl) (Nat.le_of_ble_eq_true rfl) (Nat.zero_le _) (Nat.zero_le _) dX4_leadAround_16 ?_
  refine lv_topi (fun x7 ex7 => ?_)
  have h := mlet_n h ex7
  refine lv_istore (lv' := [(5, .int x7), (4, .int x5), (3, .int x4), (0, .ref (g a0)), (1, .ref (g a1)), (2, .int x2)]) hx hb dX4_leadAround_19 hl (by decide) rfl (fun ls hl => ?_)
  obtain ⟨o24, ho25, h⟩ := cb1_e h
  refine m_X4_leadAround_L21_w (out := o24) F ha0 ha1 ?_ _ _ _ ho25 _ _ _ hG (lv_sub hl [3, 4, 5, 2, 1, 0] rfl)
  · intro M26 H locs ls eo hG hl
    subst o24
    obtain rfl := som1 h
    exact end_v F hr hlk hG dX4_leadAround_92
set_option maxHeartbeats 4000000 in
set_option maxRecDepth 100000 in
theorem m_X4_fewestToShut_L6_w {p : Program} {l : Launch} {e : Env} {s : State} {m : MethodId} {args : Array Value} {below : List Frame} {meth : Method} {c : Code} {Q : State → Prop} {D : va_G} {ca : vCA} {g : Nat → Nat} {fu : Nat} {q0 : Nat} {q1 : Nat} {out : Mem} (F : FX p m c cX4_fewestToShut 4 s D ca g RX4) (hq0 : kd q0 = 4) (hq1 : kd q1 = 3)
    (K0 : ∀ (M1 : Mem) (H : Heap) (locs : List Loc) (ls : Array Slot), out = M1 → GW D ca g s M1 H locs → lv_has ls 4 [(0, .ref (g q0)), (1, .ref (g q1))] → W p l e ({ frames := 4, cells := 0, slots := 0, locals := 91 }) s m args below meth c H locs 0 0 Q (F0 m 25 ls [])) :
    ∀ (n : Nat) (M : Mem) (z2 : Int32), m_X4_fewestToShut_L6 fu q0 q1 n M z2 = some out → ∀ (H : Heap) (locs : List Loc) (ls : Array Slot), GW D ca g s M H locs → lv_has ls 4 [(0, .ref (g q0)), (1, .ref (g q1)), (2, .int z2)] → W p l e ({ frames := 4, cells := 0, slots := 0, locals := 91 }) s m args below meth c H locs 0 0 Q (F0 m 6 ls []) := by
  have hx := F.1
  have hb := F.2.1
  intro n
  induction n with
  | zero =>
    intro M z2 h
    exact absurd h (by simp [m_X4_fewestToShut_L6])
  | succ n ih =>
    intro M z2 h H locs ls hG hl
    rw [m_X4_fewestToShut_L6] at h
    refine lv_iload_n hx hb dX4_fewestToShut_6 rfl (lv_at hl 2 rfl) ?_
    refine lv_bipush (v := 12) hx hb dX4_fewestToShut_7 (by decide) ?_
    refine lv_icmp_ge (tgt := 25) hx hb dX4_fewestToShut_9 (by decide) (fun c6 => ?_) (fun c6 => ?_)
    · have h := ite_t h c6
      exact K0 _ _ _ _ (som1 h).symm hG (lv_sub hl [0, 1] rfl)
    · have h := ite_f h c6
      refine lv_aload_n hx hb dX4_fewestToShut_12 rfl (lv_at hl 0 rfl) ?_
      refine lv_aload_n hx hb dX4_fewestToShut_13 rfl (lv_at hl 1 rfl) ?_
      refine lv_iload_n hx hb dX4_fewestToShut_14 rfl (lv_at hl 2 rfl) ?_
      refine lv_iconst (v := 0) hx hb dX4_fewestToShut_15 (by decide) ?_
      obtain ⟨M9, hc7, h⟩ := cb1_e h
      refine k_v (r_runV F hG (c_X4_lead l D ca g hq0 hq1 hc7) (kd_lt hq0 (by decide)) (gd4 hq0) rfl (kw227 F.kd) (kw229 F.kd) (ks_X4_lead F.kd) (kw6 F.kd) (kw230 F.kd) yd_X4_lead ⟨Nat.le_of_ble_eq_true rfl, Nat.le_of_ble_eq_true rfl⟩ rfl hl.1 rfl (Nat.le_of_ble_eq_true rfl) dX4_fewestToShut_16 ⟨Nat.le_of_ble_eq_true rfl, Nat.le_of_ble_eq_true rfl⟩) hG (fun H locs hG => ?_)
      obtain ⟨x10, ex10, h⟩ := mlet_e h
      refine lv_iinc (v := x10) (lv' := [(2, .int x10), (0, .ref (g q0)), (1, .ref (g q1))]) hx hb dX4_fewestToShut_19 hl (k := 2) rfl (by rw [ex10]; rfl) (by decide) rfl (fun ls hl => ?_)
      refine lv_goto (tgt := 6) hx hb dX4_fewestToShut_22 (by decide) ?_
      exact ih M9 x10 h _ _ _ hG (lv_sub hl [1, 2, 0] rfl)
set_option maxHeartbeats 4000000 in
set_option maxRecDepth 100000 in
theorem m_X4_fewestToShut_L27_w {p : Program} {l : Launch} {e : Env} {s : State} {m : MethodId} {args : Array Value} {below : List Frame} {meth : Method} {c : Code} {Q : State → Prop} {D : va_G} {ca : vCA} {g : Nat → Nat} {fu : Nat} {q0 : Nat} {q1 : Nat} {out : Mem} (F : FX p m c cX4_fewestToShut 4 s D ca g RX4) (hq0 : kd q0 = 4) (hq1 : kd q1 = 3)
    (K0 : ∀ (M1 : Mem) (H : Heap) (locs : List Loc) (ls : Array Slot), out = M1 → GW D ca g s M1 H locs → lv_has ls 4 [(0, .ref (g q0))] → W p l e ({ frames := 4, cells := 0, slots := 0, locals := 91 }) s m args below meth c H locs 0 0 Q (F0 m 76 ls [])) :
    ∀ (n : Nat) (M : Mem) (z2 : Int32), m_X4_fewestToShut_L27 fu q0 q1 n M z2 = some out → ∀ (H : Heap) (locs : List Loc) (ls : Array Slot), GW D ca g s M H locs → lv_has ls 4 [(0, .ref (g q0)), (1, .ref (g q1)), (2, .int z2)] → W p l e ({ frames := 4, cells := 0, slots := 0, locals := 91 }) s m args below meth c H locs 0 0 Q (F0 m 27 ls []) := by
  have hx := F.1
  have hb := F.2.1
  intro n
  induction n with
  | zero =>
    intro M z2 h
    exact absurd h (by simp [m_X4_fewestToShut_L27])
  | succ n ih =>
    intro M z2 h H locs ls hG hl
    rw [m_X4_fewestToShut_L27] at h
    refine lv_iload_n hx hb dX4_fewestToShut_27 rfl (lv_at hl 2 rfl) ?_
    refine lv_bipush (v := 108) hx hb dX4_fewestToShut_28 (by decide) ?_
    refine lv_icmp_ge (tgt := 76) hx hb dX4_fewestToShut_30 (by decide) (fun c14 => ?_) (fun c14 => ?_)
    · have h := ite_t h c14
      exact K0 _ _ _ _ (som1 h).symm hG (lv_sub hl [0] rfl)
    · have h := ite_f h c14
      refine lv_aload_n hx hb dX4_fewestToShut_33 rfl (lv_at hl 0 rfl) ?_
      refine xg4 F hG hq0 2 (by decide) (kw497 F.kd) (v := .int (M q0 2)) rfl dX4_fewestToShut_34 ?_
      refine lv_aload_n hx hb dX4_fewestToShut_37 rfl (lv_at hl 0 rfl) ?_
      refine xg4 F hG hq0 3 (by decide) (kw498 F.kd) (v := .int (M q0 3)) rfl dX4_fewestToShut_38 ?_
      refine lv_icmp_ge (tgt := 76) hx hb dX4_fewestToShut_41 (by decide) (fun c15 => ?_) (fun c15 => ?_)
      · have h := ite_t h c15
        exact K0 _ _ _ _ (som1 h).symm hG (lv_sub hl [0] rfl)
      · have h := ite_f h c15
        refine lv_aload_n hx hb dX4_fewestToShut_44 rfl (lv_at hl 0 rfl) ?_
        have hk16 := kt_line hq0
        refine xg4 F hG hq0 1 (by decide) (kw496 F.kd) (v := .ref (g (q0 + 2))) rfl dX4_fewestToShut_45 ?_
        refine lv_aload_n hx hb dX4_fewestToShut_48 rfl (lv_at hl 0 rfl) ?_
        refine xg4 F hG hq0 2 (by decide) (kw497 F.kd) (v := .int (M q0 2)) rfl dX4_fewestToShut_49 ?_
        obtain ⟨hi17, h⟩ := chk_e h
        refine r_ald F hG hk16 hi17 dX4_fewestToShut_52 ?_
        refine lv_topi (fun x18 ex18 => ?_)
        have h := mlet_n h ex18
        refine lv_istore_n (lv' := [(3, .int x18), (0, .ref (g q0)), (1, .ref (g q1)), (2, .int z2)]) hx hb dX4_fewestToShut_53 rfl hl (by decide) rfl (fun ls hl => ?_)
        refine lv_aload_n hx hb dX4_fewestToShut_54 rfl (lv_at hl 1 rfl) ?_
        refine lv_dup hx hb dX4_fewestToShut_55 rfl ?_
        refine xg4 F hG hq0 2 (by decide) (kw497 F.kd) (v := .int (M q0 2)) rfl dX4_fewestToShut_56 ?_
        refine lv_iconst (v := 1) hx hb dX4_fewestToShut_59 (by decide) ?_
        refine lv_iadd hx hb dX4_fewestToShut_60 ?_
        obtain ⟨M19, eM19, h⟩ := mlet_e h
        refine xp4 F hG hq0 eM19 rfl (by decide) (kw497 F.kd) rfl rfl rfl dX4_fewestToShut_61 (fun H locs hG => ?_)
        refine lv_aload_n hx hb dX4_fewestToShut_64 rfl (lv_at hl 1 rfl) ?_
        refine lv_aload_n hx hb dX4_fewestToShut_65 rfl (lv_at hl 2 rfl) ?_
        refine lv_iload_n hx hb dX4_fewestToShut_66 rfl (lv_at hl 0 rfl) ?_
        obtain ⟨M22, hc20, h⟩ := cb1_e h
        refine k_v (r_runV F hG (c_X4_leadAround l D ca g hq0 hq1 hc20) (kd_lt hq0 (by decide)) (gd4 hq0) rfl (kw235 F.kd) (kw237 F.kd) (ks_X4_leadAround F.kd) (kw6 F.kd) (kw238 F.kd) yd_X4_leadAround ⟨Nat.le_of_ble_eq_true rfl, Nat.le_of_ble_eq_true rfl⟩ rfl hl.1 rfl (Nat.le_of_ble_eq_true rfl) dX4_fewestToShut_67 ⟨Nat.le_of_ble_eq_true rfl, Nat.le_of_ble_eq_true rfl⟩) hG (fun H locs hG => ?_)
        obtain ⟨x23, ex23, h⟩ := mlet_e h
        refine lv_iinc (v := x23) (lv' := [(2, .int x23), (3, .int x18), (0, .ref (g q0)), (1, .ref (g q1))]) hx hb dX4_fewestToShut_70 hl (k := 3) rfl (by rw [ex23]; rfl) (by decide) rfl (fun ls hl => ?_)
        refine lv_goto (tgt := 27) hx hb dX4_fewestToShut_73 (by decide) ?_
        exact ih M22 x23 h _ _ _ hG (lv_sub hl [2, 3, 0] rfl)
set_option maxHeartbeats 4000000 in
set_option maxRecDepth 100000 in
theorem m_X4_fewestToShut_L82_w {p : Program} {l : Launch} {e : Env} {s : State} {m : MethodId} {args : Array Value} {below : List Frame} {meth : Method} {c : Code} {Q : State → Prop} {D : va_G} {ca : vCA} {g : Nat → Nat} {fu : Nat} {M : Mem} {q0 : Nat} {out : Int32} (F : FX p m c cX4_fewestToShut 4 s D ca g RX4) (hq0 : kd q0 = 4)
    (K0 : ∀ (u2 : Int32) (H : Heap) (locs : List Loc) (ls : Array Slot), out = u2 → GW D ca g s M H locs → lv_has ls 4 [(2, .int u2)] → W p l e ({ frames := 4, cells := 0, slots := 0, locals := 91 }) s m args below meth c H locs 0 0 Q (F0 m 105 ls [])) :
    ∀ (n : Nat) (z2 : Int32) (z3 : Int32), m_X4_fewestToShut_L82 fu M q0 n z2 z3 = some out → ∀ (H : Heap) (locs : List Loc) (ls : Array Slot), GW D ca g s M H locs → lv_has ls 4 [(0, .ref (g q0)), (2, .int z2), (3, .int z3)] → W p l e ({ frames := 4, cells := 0, slots := 0, locals := 91 }) s m args below meth c H locs 0 0 Q (F0 m 82 ls []) := by
  have hx := F.1
  have hb := F.2.1
  intro n
  induction n with
  | zero =>
    intro z2 z3 h
    exact absurd h (by simp [m_X4_fewestToShut_L82])
  | succ n ih =>
    intro z2 z3 h H locs ls hG hl
    rw [m_X4_fewestToShut_L82] at h
    refine lv_iload_n hx hb dX4_fewestToShut_82 rfl (lv_at hl 2 rfl) ?_
    refine lv_bipush (v := 108) hx hb dX4_fewestToShut_83 (by decide) ?_
    refine lv_icmp_ge (tgt := 105) hx hb dX4_fewestToShut_85 (by decide) (fun c27 => ?_) (fun c27 => ?_)
    · have h := ite_t h c27
      exact K0 _ _ _ _ (som1 h).symm hG (lv_sub hl [1] rfl)
    · have h := ite_f h c27
      refine lv_iload_n hx hb dX4_fewestToShut_88 rfl (lv_at hl 1 rfl) ?_
      refine lv_aload_n hx hb dX4_fewestToShut_89 rfl (lv_at hl 0 rfl) ?_
      have hk28 := kt_far hq0
      refine xg4 F hG hq0 0 (by decide) (kw495 F.kd) (v := .ref (g (q0 + 1))) rfl dX4_fewestToShut_90 ?_
      refine lv_iload_n hx hb dX4_fewestToShut_93 rfl (lv_at hl 2 rfl) ?_
      obtain ⟨hi29, h⟩ := chk_e h
      refine r_ald F hG hk28 hi29 dX4_fewestToShut_94 ?_
      obtain ⟨x30, ex30, h⟩ := mlet_e h
      rw [← ex30]
      refine va_mmin hx hb (F.2.2.1.trans hl.1.symm) F.2.2.2.1 (kw242 F.kd) (kw138 F.kd) (kw14 F.kd) (kw139 F.kd) (Nat.le_of_ble_eq_true rfl) (Nat.le_of_ble_eq_true rfl) (Nat.zero_le _) (Nat.zero_le _) dX4_fewestToShut_95 ?_
      refine lv_topi (fun x31 ex31 => ?_)
      have h := mlet_n h ex31
      refine lv_istore_n (lv' := [(2, .int x31), (0, .ref (g q0)), (3, .int z3)]) hx hb dX4_fewestToShut_98 rfl hl (by decide) rfl (fun ls hl => ?_)
      obtain ⟨x32, ex32, h⟩ := mlet_e h
      refine lv_iinc (v := x32) (lv' := [(3, .int x32), (2, .int x31), (0, .ref (g q0))]) hx hb dX4_fewestToShut_99 hl (k := 2) rfl (by rw [ex32]; rfl) (by decide) rfl (fun ls hl => ?_)
      refine lv_goto (tgt := 82) hx hb dX4_fewestToShut_102 (by decide) ?_
      exact ih x31 x32 h _ _ _ hG (lv_sub hl [2, 1, 0] rfl)
set_option maxHeartbeats 4000000 in
set_option maxRecDepth 100000 in
theorem c_X4_fewestToShut (l : Launch) (D : va_G) (ca : vCA) (g : Nat → Nat) {fu : Nat} {M : Mem} {a0 : Nat} {a1 : Nat} {M' : Mem} {r : Int32} (ha0 : kd a0 = 4) (ha1 : kd a1 = 3) (h : m_X4_fewestToShut fu M a0 a1 = some (M', r)) : cM l yX4_fewestToShut cX4_fewestToShut 4 (some .int) { frames := 4, cells := 0, slots := 0, locals := 91 } D ca g M [.ref (g a0), .ref (g a1)] (fun sz => cQi D ca g sz M' r) := by
  refine mk_Met (by decide) (Nat.le_of_ble_eq_true rfl) ?_
  intro p e s m below meth c F hr hlk hnm hG ls hl
  have hx := F.1
  have hb := F.2.1
  replace hl : lv_has ls 4 [(0, .ref (g a0)), (1, .ref (g a1))] := hl
  unfold m_X4_fewestToShut at h
  refine lv_aload_n hx hb dX4_fewestToShut_0 rfl (lv_at hl 0 rfl) ?_
  obtain ⟨M5, hc3, h⟩ := cb1_e h
  refine k_v (r_runV F hG (c_X4_startAnew l D ca g ha0 hc3) (kd_lt ha0 (by decide)) (gd4 ha0) rfl (kw205 F.kd) (kw207 F.kd) (ks_X4_startAnew F.kd) (kw6 F.kd) (kw208 F.kd) yd_X4_startAnew ⟨Nat.le_of_ble_eq_true rfl, Nat.le_of_ble_eq_true rfl⟩ rfl hl.1 rfl (Nat.le_of_ble_eq_true rfl) dX4_fewestToShut_1 ⟨Nat.le_of_ble_eq_true rfl, Nat.le_of_ble_eq_true rfl⟩) hG (fun H locs hG => ?_)
  refine lv_iconst (v := 0) hx hb dX4_fewestToShut_4 (by decide) ?_
  refine lv_istore_n (lv' := [(2, .int 0), (0, .ref (g a0)), (1, .ref (g a1))]) hx hb dX4_fewestToShut_5 rfl hl (by decide) rfl (fun ls hl => ?_)
  obtain ⟨o11, ho12, h⟩ := cb1_e h
  refine m_X4_fewestToShut_L6_w (out := o11) F ha0 ha1 ?_ _ _ _ ho12 _ _ _ hG (lv_sub hl [1, 2, 0] rfl)
  · intro M13 H locs ls eo hG hl
    subst o11
    refine lv_iconst (v := 0) hx hb dX4_fewestToShut_25 (by decide) ?_
    refine lv_istore_n (lv' := [(2, .int 0), (0, .ref (g a0)), (1, .ref (g a1))]) hx hb dX4_fewestToShut_26 rfl hl (by decide) rfl (fun ls hl => ?_)
    obtain ⟨o24, ho25, h⟩ := cb1_e h
    refine m_X4_fewestToShut_L27_w (out := o24) F ha0 ha1 ?_ _ _ _ ho25 _ _ _ hG (lv_sub hl [1, 2, 0] rfl)
    · intro M26 H locs ls eo hG hl
      subst o24
      refine lv_bipush (v := 9) hx hb dX4_fewestToShut_76 (by decide) ?_
      refine lv_istore_n (lv' := [(2, .int 9), (0, .ref (g a0))]) hx hb dX4_fewestToShut_78 rfl hl (by decide) rfl (fun ls hl => ?_)
      refine lv_bipush (v := 96) hx hb dX4_fewestToShut_79 (by decide) ?_
      refine lv_istore_n (lv' := [(3, .int 96), (2, .int 9), (0, .ref (g a0))]) hx hb dX4_fewestToShut_81 rfl hl (by decide) rfl (fun ls hl => ?_)
      obtain ⟨o33, ho34, h⟩ := cb1_e h
      refine m_X4_fewestToShut_L82_w (out := o33) F ha0 ?_ _ _ _ ho34 _ _ _ hG (lv_sub hl [2, 1, 0] rfl)
      · intro x35 H locs ls eo hG hl
        subst o33
        refine lv_iload_n hx hb dX4_fewestToShut_105 rfl (lv_at hl 0 rfl) ?_
        obtain ⟨rfl, rfl⟩ := som2 h
        exact end_i F hr hlk hG dX4_fewestToShut_106
set_option maxHeartbeats 4000000 in
set_option maxRecDepth 100000 in
theorem m_X4_fewestSteps_L73_w {p : Program} {l : Launch} {e : Env} {s : State} {m : MethodId} {args : Array Value} {below : List Frame} {meth : Method} {c : Code} {Q : State → Prop} {D : va_G} {ca : vCA} {g : Nat → Nat} {fu : Nat} {q0 : Nat} {q1 : Nat} {y3 : Int32} {y4 : Int32} {y5 : Int32} {out : Mem} (F : FX p m c cX4_fewestSteps 8 s D ca g RX4) (hq0 : kd q0 = 4) (hq1 : kd q1 = 3)
    (K0 : ∀ (M1 : Mem) (H : Heap) (locs : List Loc) (ls : Array Slot), out = M1 → GW D ca g s M1 H locs → lv_has ls 8 [(0, .ref (g q0)), (1, .ref (g q1)), (3, .int y3), (4, .int y4)] → W p l e ({ frames := 2, cells := 0, slots := 0, locals := 43 }) s m args below meth c H locs 0 0 Q (F0 m 129 ls [])) :
    ∀ (n : Nat) (M : Mem) (z6 : Int32), m_X4_fewestSteps_L73 fu q0 q1 y3 y4 y5 n M z6 = some out → ∀ (H : Heap) (locs : List Loc) (ls : Array Slot), GW D ca g s M H locs → lv_has ls 8 [(0, .ref (g q0)), (1, .ref (g q1)), (3, .int y3), (4, .int y4), (5, .int y5), (6, .int z6)] → W p l e ({ frames := 2, cells := 0, slots := 0, locals := 43 }) s m args below meth c H locs 0 0 Q (F0 m 73 ls []) := by
  have hx := F.1
  have hb := F.2.1
  intro n
  induction n with
  | zero =>
    intro M z6 h
    exact absurd h (by simp [m_X4_fewestSteps_L73])
  | succ n ih =>
    intro M z6 h H locs ls hG hl
    rw [m_X4_fewestSteps_L73] at h
    refine lv_iload hx hb dX4_fewestSteps_73 (lv_at hl 5 rfl) ?_
    refine lv_iconst (v := 4) hx hb dX4_fewestSteps_75 (by decide) ?_
    refine lv_icmp_ge (tgt := 129) hx hb dX4_fewestSteps_76 (by decide) (fun c23 => ?_) (fun c23 => ?_)
    · have h := ite_t h c23
      exact K0 _ _ _ _ (som1 h).symm hG (lv_sub hl [0, 1, 2, 3] rfl)
    · have h := ite_f h c23
      refine lv_iload hx hb dX4_fewestSteps_79 (lv_at hl 4 rfl) ?_
      refine lv_iload hx hb dX4_fewestSteps_81 (lv_at hl 5 rfl) ?_
      obtain ⟨r25, hc24, h⟩ := cb1_e h
      refine k_i (r_runSN F hG (c_X3_next l D ca g hc24) (kw216 F.kd) (kw217 F.kd) (kw3 F.kd) (kw218 F.kd) yd_X3_next ⟨Nat.le_of_ble_eq_true rfl, Nat.le_of_ble_eq_true rfl⟩ rfl hl.1 rfl (Nat.le_of_ble_eq_true rfl) dX4_fewestSteps_83 ⟨Nat.le_of_ble_eq_true rfl, Nat.le_of_ble_eq_true rfl⟩) hG (fun H locs hG => ?_)
      refine lv_istore (lv' := [(7, .int r25), (0, .ref (g q0)), (1, .ref (g q1)), (3, .int y3), (4, .int y4), (5, .int y5), (6, .int z6)]) hx hb dX4_fewestSteps_86 hl (by decide) rfl (fun ls hl => ?_)
      refine lv_aload_n hx hb dX4_fewestSteps_88 rfl (lv_at hl 2 rfl) ?_
      refine lv_iload hx hb dX4_fewestSteps_89 (lv_at hl 0 rfl) ?_
      obtain ⟨r27, hc26, h⟩ := cb1_e h
      refine k_i (r_runVN F hG (c_X3_isFree l D ca g hq1 hc26) (kd_lt hq1 (by decide)) (gd3 hq1) rfl (kw200 F.kd) (kw202 F.kd) (ks_X3_isFree F.kd) (kw3 F.kd) (kw203 F.kd) yd_X3_isFree ⟨Nat.le_of_ble_eq_true rfl, Nat.le_of_ble_eq_true rfl⟩ rfl hl.1 rfl (Nat.le_of_ble_eq_true rfl) dX4_fewestSteps_91 ⟨Nat.le_of_ble_eq_true rfl, Nat.le_of_ble_eq_true rfl⟩) hG (fun H locs hG => ?_)
      refine lv_if_eq (tgt := 123) hx hb dX4_fewestSteps_94 (by decide) (fun c28 => ?_) (fun c28 => ?_)
      · have h := ite_t h c28
        obtain ⟨x29, ex29, h⟩ := mlet_e h
        refine lv_iinc (v := x29) (lv' := [(6, .int x29), (7, .int r25), (0, .ref (g q0)), (1, .ref (g q1)), (3, .int y3), (4, .int y4), (5, .int y5)]) hx hb dX4_fewestSteps_123 hl (k := 6) rfl (by rw [ex29]; rfl) (by decide) rfl (fun ls hl => ?_)
        refine lv_goto (tgt := 73) hx hb dX4_fewestSteps_126 (by decide) ?_
        exact ih M x29 h _ _ _ hG (lv_sub hl [2, 3, 4, 5, 6, 0] rfl)
      · have h := ite_f h c28
        refine lv_aload_n hx hb dX4_fewestSteps_97 rfl (lv_at hl 1 rfl) ?_
        have hk30 := kt_far hq0
        refine xg4 F hG hq0 0 (by decide) (kw495 F.kd) (v := .ref (g (q0 + 1))) rfl dX4_fewestSteps_98 ?_
        refine lv_iload hx hb dX4_fewestSteps_101 (lv_at hl 0 rfl) ?_
        obtain ⟨hi31, h⟩ := chk_e h
        refine r_ald F hG hk30 hi31 dX4_fewestSteps_103 ?_
        refine lv_iconst (v := (-1)) hx hb dX4_fewestSteps_104 (by decide) ?_
        refine lv_icmp_ne (tgt := 123) hx hb dX4_fewestSteps_105 (by decide) (fun c32 => ?_) (fun c32 => ?_)
        · have h := ite_f h c32
          obtain ⟨x33, ex33, h⟩ := mlet_e h
          refine lv_iinc (v := x33) (lv' := [(6, .int x33), (7, .int r25), (0, .ref (g q0)), (1, .ref (g q1)), (3, .int y3), (4, .int y4), (5, .int y5)]) hx hb dX4_fewestSteps_123 hl (k := 6) rfl (by rw [ex33]; rfl) (by decide) rfl (fun ls hl => ?_)
          refine lv_goto (tgt := 73) hx hb dX4_fewestSteps_126 (by decide) ?_
          exact ih M x33 h _ _ _ hG (lv_sub hl [2, 3, 4, 5, 6, 0] rfl)
        · have h := ite_t h c32
          refine lv_aload_n hx hb dX4_fewestSteps_108 rfl (lv_at hl 1 rfl) ?_
          refine lv_iload hx hb dX4_fewestSteps_109 (lv_at hl 0 rfl) ?_
          refine lv_aload_n hx hb dX4_fewestSteps_111 rfl (lv_at hl 1 rfl) ?_
          have hk34 := kt_far hq0
          refine xg4 F hG hq0 0 (by decide) (kw495 F.kd) (v := .ref (g (q0 + 1))) rfl dX4_fewestSteps_112 ?_
          refine lv_iload hx hb dX4_fewestSteps_115 (lv_at hl 5 rfl) ?_
          obtain ⟨hi35, h⟩ := chk_e h
          refine r_ald F hG hk34 hi35 dX4_fewestSteps_117 ?_
          refine lv_iconst (v := 1) hx hb dX4_fewestSteps_118 (by decide) ?_
          refine lv_iadd hx hb dX4_fewestSteps_119 ?_
          obtain ⟨M38, hc36, h⟩ := cb1_e h
          refine k_v (r_runV F hG (c_X4_putLast l D ca g hq0 hc36) (kd_lt hq0 (by decide)) (gd4 hq0) rfl (kw212 F.kd) (kw214 F.kd) (ks_X4_putLast F.kd) (kw6 F.kd) (kw215 F.kd) yd_X4_putLast ⟨Nat.le_of_ble_eq_true rfl, Nat.le_of_ble_eq_true rfl⟩ rfl hl.1 rfl (Nat.le_of_ble_eq_true rfl) dX4_fewestSteps_120 ⟨Nat.le_of_ble_eq_true rfl, Nat.le_of_ble_eq_true rfl⟩) hG (fun H locs hG => ?_)
          obtain ⟨x39, ex39, h⟩ := mlet_e h
          refine lv_iinc (v := x39) (lv' := [(6, .int x39), (7, .int r25), (0, .ref (g q0)), (1, .ref (g q1)), (3, .int y3), (4, .int y4), (5, .int y5)]) hx hb dX4_fewestSteps_123 hl (k := 6) rfl (by rw [ex39]; rfl) (by decide) rfl (fun ls hl => ?_)
          refine lv_goto (tgt := 73) hx hb dX4_fewestSteps_126 (by decide) ?_
          exact ih M38 x39 h _ _ _ hG (lv_sub hl [2, 3, 4, 5, 6, 0] rfl)
set_option maxHeartbeats 4000000 in
set_option maxRecDepth 100000 in
theorem m_X4_fewestSteps_L31_w {p : Program} {l : Launch} {e : Env} {s : State} {m : MethodId} {args : Array Value} {below : List Frame} {meth : Method} {c : Code} {Q : State → Prop} {D : va_G} {ca : vCA} {g : Nat → Nat} {fu : Nat} {q0 : Nat} {q1 : Nat} {y3 : Int32} {out : Mem} (F : FX p m c cX4_fewestSteps 8 s D ca g RX4) (hq0 : kd q0 = 4) (hq1 : kd q1 = 3)
    (K0 : ∀ (M1 : Mem) (H : Heap) (locs : List Loc) (ls : Array Slot), out = M1 → GW D ca g s M1 H locs → lv_has ls 8 [(0, .ref (g q0)), (3, .int y3)] → W p l e ({ frames := 2, cells := 0, slots := 0, locals := 43 }) s m args below meth c H locs 0 0 Q (F0 m 135 ls [])) :
    ∀ (n : Nat) (M : Mem) (z4 : Int32), m_X4_fewestSteps_L31 fu q0 q1 y3 n M z4 = some out → ∀ (H : Heap) (locs : List Loc) (ls : Array Slot), GW D ca g s M H locs → lv_has ls 8 [(0, .ref (g q0)), (1, .ref (g q1)), (3, .int y3), (4, .int z4)] → W p l e ({ frames := 2, cells := 0, slots := 0, locals := 43 }) s m args below meth c H locs 0 0 Q (F0 m 31 ls []) := by
  have hx := F.1
  have hb := F.2.1
  intro n
  induction n with
  | zero =>
    intro M z4 h
    exact absurd h (by simp [m_X4_fewestSteps_L31])
  | succ n ih =>
    intro M z4 h H locs ls hG hl
    rw [m_X4_fewestSteps_L31] at h
    refine lv_iload hx hb dX4_fewestSteps_31 (lv_at hl 3 rfl) ?_
    refine lv_bipush (v := 108) hx hb dX4_fewestSteps_33 (by decide) ?_
    refine lv_icmp_ge (tgt := 135) hx hb dX4_fewestSteps_35 (by decide) (fun c17 => ?_) (fun c17 => ?_)
    · have h := ite_t h c17
      exact K0 _ _ _ _ (som1 h).symm hG (lv_sub hl [0, 2] rfl)
    · have h := ite_f h c17
      refine lv_aload_n hx hb dX4_fewestSteps_38 rfl (lv_at hl 0 rfl) ?_
      refine xg4 F hG hq0 2 (by decide) (kw497 F.kd) (v := .int (M q0 2)) rfl dX4_fewestSteps_39 ?_
      refine lv_aload_n hx hb dX4_fewestSteps_42 rfl (lv_at hl 0 rfl) ?_
      refine xg4 F hG hq0 3 (by decide) (kw498 F.kd) (v := .int (M q0 3)) rfl dX4_fewestSteps_43 ?_
      refine lv_icmp_ge (tgt := 135) hx hb dX4_fewestSteps_46 (by decide) (fun c18 => ?_) (fun c18 => ?_)
      · have h := ite_t h c18
        exact K0 _ _ _ _ (som1 h).symm hG (lv_sub hl [0, 2] rfl)
      · have h := ite_f h c18
        refine lv_aload_n hx hb dX4_fewestSteps_49 rfl (lv_at hl 0 rfl) ?_
        have hk19 := kt_line hq0
        refine xg4 F hG hq0 1 (by decide) (kw496 F.kd) (v := .ref (g (q0 + 2))) rfl dX4_fewestSteps_50 ?_
        refine lv_aload_n hx hb dX4_fewestSteps_53 rfl (lv_at hl 0 rfl) ?_
        refine xg4 F hG hq0 2 (by decide) (kw497 F.kd) (v := .int (M q0 2)) rfl dX4_fewestSteps_54 ?_
        obtain ⟨hi20, h⟩ := chk_e h
        refine r_ald F hG hk19 hi20 dX4_fewestSteps_57 ?_
        refine lv_topi (fun x21 ex21 => ?_)
        have h := mlet_n h ex21
        refine lv_istore (lv' := [(5, .int x21), (0, .ref (g q0)), (1, .ref (g q1)), (3, .int y3), (4, .int z4)]) hx hb dX4_fewestSteps_58 hl (by decide) rfl (fun ls hl => ?_)
        refine lv_aload_n hx hb dX4_fewestSteps_60 rfl (lv_at hl 1 rfl) ?_
        refine lv_dup hx hb dX4_fewestSteps_61 rfl ?_
        refine xg4 F hG hq0 2 (by decide) (kw497 F.kd) (v := .int (M q0 2)) rfl dX4_fewestSteps_62 ?_
        refine lv_iconst (v := 1) hx hb dX4_fewestSteps_65 (by decide) ?_
        refine lv_iadd hx hb dX4_fewestSteps_66 ?_
        obtain ⟨M22, eM22, h⟩ := mlet_e h
        refine xp4 F hG hq0 eM22 rfl (by decide) (kw497 F.kd) rfl rfl rfl dX4_fewestSteps_67 (fun H locs hG => ?_)
        refine lv_iconst (v := 0) hx hb dX4_fewestSteps_70 (by decide) ?_
        refine lv_istore (lv' := [(6, .int 0), (5, .int x21), (0, .ref (g q0)), (1, .ref (g q1)), (3, .int y3), (4, .int z4)]) hx hb dX4_fewestSteps_71 hl (by decide) rfl (fun ls hl => ?_)
        obtain ⟨o40, ho41, h⟩ := cb1_e h
        refine m_X4_fewestSteps_L73_w (out := o40) F hq0 hq1 ?_ _ _ _ ho41 _ _ _ hG (lv_sub hl [2, 3, 4, 5, 1, 0] rfl)
        · intro M42 H locs ls eo hG hl
          subst o40
          obtain ⟨x43, ex43, h⟩ := mlet_e h
          refine lv_iinc (v := x43) (lv' := [(4, .int x43), (0, .ref (g q0)), (1, .ref (g q1)), (3, .int y3)]) hx hb dX4_fewestSteps_129 hl (k := 3) rfl (by rw [ex43]; rfl) (by decide) rfl (fun ls hl => ?_)
          refine lv_goto (tgt := 31) hx hb dX4_fewestSteps_132 (by decide) ?_
          exact ih M42 x43 h _ _ _ hG (lv_sub hl [1, 2, 3, 0] rfl)
set_option maxHeartbeats 4000000 in
set_option maxRecDepth 100000 in
theorem c_X4_fewestSteps (l : Launch) (D : va_G) (ca : vCA) (g : Nat → Nat) {fu : Nat} {M : Mem} {a0 : Nat} {a1 : Nat} {x2 : Int32} {x3 : Int32} {M' : Mem} {r : Int32} (ha0 : kd a0 = 4) (ha1 : kd a1 = 3) (h : m_X4_fewestSteps fu M a0 a1 x2 x3 = some (M', r)) : cM l yX4_fewestSteps cX4_fewestSteps 8 (some .int) { frames := 2, cells := 0, slots := 0, locals := 43 } D ca g M [.ref (g a0), .ref (g a1), .int x2, .int x3] (fun sz => cQi D ca g sz M' r) := by
  refine mk_Met (by decide) (Nat.le_of_ble_eq_true rfl) ?_
  intro p e s m below meth c F hr hlk hnm hG ls hl
  have hx := F.1
  have hb := F.2.1
  replace hl : lv_has ls 8 [(0, .ref (g a0)), (1, .ref (g a1)), (2, .int x2), (3, .int x3)] := hl
  unfold m_X4_fewestSteps at h
  refine lv_aload_n hx hb dX4_fewestSteps_0 rfl (lv_at hl 1 rfl) ?_
  refine lv_iload_n hx hb dX4_fewestSteps_1 rfl (lv_at hl 2 rfl) ?_
  obtain ⟨r6, hc5, h⟩ := cb1_e h
  refine k_i (r_runVN F hG (c_X3_isFree l D ca g ha1 hc5) (kd_lt ha1 (by decide)) (gd3 ha1) rfl (kw200 F.kd) (kw202 F.kd) (ks_X3_isFree F.kd) (kw3 F.kd) (kw203 F.kd) yd_X3_isFree ⟨Nat.le_of_ble_eq_true rfl, Nat.le_of_ble_eq_true rfl⟩ rfl hl.1 rfl (Nat.le_of_ble_eq_true rfl) dX4_fewestSteps_2 ⟨Nat.le_of_ble_eq_true rfl, Nat.le_of_ble_eq_true rfl⟩) hG (fun H locs hG => ?_)
  refine lv_if_eq (tgt := 16) hx hb dX4_fewestSteps_5 (by decide) (fun c7 => ?_) (fun c7 => ?_)
  · have h := ite_t h c7
    refine lv_iconst (v := (-1)) hx hb dX4_fewestSteps_16 (by decide) ?_
    obtain ⟨rfl, rfl⟩ := som2 h
    exact end_i F hr hlk hG dX4_fewestSteps_17
  · have h := ite_f h c7
    refine lv_aload_n hx hb dX4_fewestSteps_8 rfl (lv_at hl 1 rfl) ?_
    refine lv_iload_n hx hb dX4_fewestSteps_9 rfl (lv_at hl 3 rfl) ?_
    obtain ⟨r9, hc8, h⟩ := cb1_e h
    refine k_i (r_runVN F hG (c_X3_isFree l D ca g ha1 hc8) (kd_lt ha1 (by decide)) (gd3 ha1) rfl (kw200 F.kd) (kw202 F.kd) (ks_X3_isFree F.kd) (kw3 F.kd) (kw203 F.kd) yd_X3_isFree ⟨Nat.le_of_ble_eq_true rfl, Nat.le_of_ble_eq_true rfl⟩ rfl hl.1 rfl (Nat.le_of_ble_eq_true rfl) dX4_fewestSteps_10 ⟨Nat.le_of_ble_eq_true rfl, Nat.le_of_ble_eq_true rfl⟩) hG (fun H locs hG => ?_)
    refine lv_if_ne (tgt := 18) hx hb dX4_fewestSteps_13 (by decide) (fun c10 => ?_) (fun c10 => ?_)
    · have h := ite_f h c10
      refine lv_aload_n hx hb dX4_fewestSteps_18 rfl (lv_at hl 0 rfl) ?_
      obtain ⟨M13, hc11, h⟩ := cb1_e h
      refine k_v (r_runV F hG (c_X4_startAnew l D ca g ha0 hc11) (kd_lt ha0 (by decide)) (gd4 ha0) rfl (kw205 F.kd) (kw207 F.kd) (ks_X4_startAnew F.kd) (kw6 F.kd) (kw208 F.kd) yd_X4_startAnew ⟨Nat.le_of_ble_eq_true rfl, Nat.le_of_ble_eq_true rfl⟩ rfl hl.1 rfl (Nat.le_of_ble_eq_true rfl) dX4_fewestSteps_19 ⟨Nat.le_of_ble_eq_true rfl, Nat.le_of_ble_eq_true rfl⟩) hG (fun H locs hG => ?_)
      refine lv_aload_n hx hb dX4_fewestSteps_22 rfl (lv_at hl 0 rfl) ?_
      refine lv_iload_n hx hb dX4_fewestSteps_23 rfl (lv_at hl 2 rfl) ?_
      refine lv_iconst (v := 0) hx hb dX4_fewestSteps_24 (by decide) ?_
      obtain ⟨M16, hc14, h⟩ := cb1_e h
      refine k_v (r_runV F hG (c_X4_putLast l D ca g ha0 hc14) (kd_lt ha0 (by decide)) (gd4 ha0) rfl (kw212 F.kd) (kw214 F.kd) (ks_X4_putLast F.kd) (kw6 F.kd) (kw215 F.kd) yd_X4_putLast ⟨Nat.le_of_ble_eq_true rfl, Nat.le_of_ble_eq_true rfl⟩ rfl hl.1 rfl (Nat.le_of_ble_eq_true rfl) dX4_fewestSteps_25 ⟨Nat.le_of_ble_eq_true rfl, Nat.le_of_ble_eq_true rfl⟩) hG (fun H locs hG => ?_)
      refine lv_iconst (v := 0) hx hb dX4_fewestSteps_28 (by decide) ?_
      refine lv_istore (lv' := [(4, .int 0), (0, .ref (g a0)), (1, .ref (g a1)), (2, .int x2), (3, .int x3)]) hx hb dX4_fewestSteps_29 hl (by decide) rfl (fun ls hl => ?_)
      obtain ⟨o44, ho45, h⟩ := cb1_e h
      refine m_X4_fewestSteps_L31_w (out := o44) F ha0 ha1 ?_ _ _ _ ho45 _ _ _ hG (lv_sub hl [1, 2, 4, 0] rfl)
      · intro M46 H locs ls eo hG hl
        subst o44
        refine lv_aload_n hx hb dX4_fewestSteps_135 rfl (lv_at hl 0 rfl) ?_
        have hk47 := kt_far ha0
        refine xg4 F hG ha0 0 (by decide) (kw495 F.kd) (v := .ref (g (a0 + 1))) rfl dX4_fewestSteps_136 ?_
        refine lv_iload_n hx hb dX4_fewestSteps_139 rfl (lv_at hl 1 rfl) ?_
        obtain ⟨hi48, h⟩ := chk_e h
        refine r_ald F hG hk47 hi48 dX4_fewestSteps_140 ?_
        obtain ⟨rfl, rfl⟩ := som2 h
        exact end_i F hr hlk hG dX4_fewestSteps_141
    · have h := ite_t h c10
      refine lv_iconst (v := (-1)) hx hb dX4_fewestSteps_16 (by decide) ?_
      obtain ⟨rfl, rfl⟩ := som2 h
      exact end_i F hr hlk hG dX4_fewestSteps_17

set_option maxHeartbeats 4000000 in
set_option maxRecDepth 100000 in
theorem c_L_below (l : Launch) (D : va_G) (ca : vCA) (g : Nat → Nat) {fu : Nat} {M : Mem} {x0 : Int32} {x1 : Int32} {r : Int32}  (h : m_L_below fu M x0 x1 = some r) : cM l yL_below cL_below 2 (some .int) { frames := 0, cells := 0, slots := 0, locals := 0 } D ca g M [.int x0, .int x1] (fun sz => cQi D ca g sz M r) := by
  refine mk_Met (by decide) (Nat.le_of_ble_eq_true rfl) ?_
  intro p e s m below meth c F hr hlk hnm hG ls hl
  have hx := F.1
  have hb := F.2.1
  replace hl : lv_has ls 2 [(0, .int x0), (1, .int x1)] := hl
  unfold m_L_below at h
  refine lv_iload_n hx hb dL_below_0 rfl (lv_at hl 0 rfl) ?_
  refine lv_ldc (v := 2147483647) hx hb F.2.2.2.1 (kw384 F.kd) dL_below_1 ?_
  refine lv_iand hx hb dL_below_3 ?_
  refine lv_iload_n hx hb dL_below_4 rfl (lv_at hl 1 rfl) ?_
  obtain ⟨hn3, h⟩ := chk_e h
  obtain ⟨x4, ex4, h⟩ := mlet_e h
  rw [← ex4]
  refine lv_irem hx hb dL_below_5 (of_decide_eq_true hn3) ?_
  obtain rfl := som1 h
  exact end_i F hr hlk hG dL_below_6
set_option maxHeartbeats 4000000 in
set_option maxRecDepth 100000 in
theorem c_L_isFree (l : Launch) (D : va_G) (ca : vCA) (g : Nat → Nat) {fu : Nat} {M : Mem} {a0 : Nat} {x1 : Int32} {x2 : Int32} {r : Int32} (ha0 : kd a0 = 5) (h : m_L_isFree fu M a0 x1 x2 = some r) : cM l yL_isFree cL_isFree 3 (some .boolean) { frames := 8, cells := 0, slots := 0, locals := 133 } D ca g M [.ref (g a0), .int x1, .int x2] (fun sz => cQi D ca g sz M r) := by
  refine mk_Met (by decide) (Nat.le_of_ble_eq_true rfl) ?_
  intro p e s m below meth c F hr hlk hnm hG ls hl
  have hx := F.1
  have hb := F.2.1
  replace hl : lv_has ls 3 [(0, .ref (g a0)), (1, .int x1), (2, .int x2)] := hl
  unfold m_L_isFree at h
  refine lv_iload_n hx hb dL_isFree_0 rfl (lv_at hl 1 rfl) ?_
  refine lv_if_lt (tgt := 33) hx hb dL_isFree_1 (by decide) (fun c4 => ?_) (fun c4 => ?_)
  · have h := ite_t h c4
    refine lv_iconst (v := 0) hx hb dL_isFree_33 (by decide) ?_
    obtain rfl := som1 h
    exact end_z F hr hlk (by decide) hG dL_isFree_34
  · have h := ite_f h c4
    refine lv_iload_n hx hb dL_isFree_4 rfl (lv_at hl 2 rfl) ?_
    refine lv_if_lt (tgt := 33) hx hb dL_isFree_5 (by decide) (fun c5 => ?_) (fun c5 => ?_)
    · have h := ite_t h c5
      refine lv_iconst (v := 0) hx hb dL_isFree_33 (by decide) ?_
      obtain rfl := som1 h
      exact end_z F hr hlk (by decide) hG dL_isFree_34
    · have h := ite_f h c5
      refine lv_iload_n hx hb dL_isFree_8 rfl (lv_at hl 1 rfl) ?_
      refine lv_bipush (v := 12) hx hb dL_isFree_9 (by decide) ?_
      refine lv_icmp_ge (tgt := 33) hx hb dL_isFree_11 (by decide) (fun c6 => ?_) (fun c6 => ?_)
      · have h := ite_t h c6
        refine lv_iconst (v := 0) hx hb dL_isFree_33 (by decide) ?_
        obtain rfl := som1 h
        exact end_z F hr hlk (by decide) hG dL_isFree_34
      · have h := ite_f h c6
        refine lv_iload_n hx hb dL_isFree_14 rfl (lv_at hl 2 rfl) ?_
        refine lv_bipush (v := 9) hx hb dL_isFree_15 (by decide) ?_
        refine lv_icmp_ge (tgt := 33) hx hb dL_isFree_17 (by decide) (fun c7 => ?_) (fun c7 => ?_)
        · have h := ite_t h c7
          refine lv_iconst (v := 0) hx hb dL_isFree_33 (by decide) ?_
          obtain rfl := som1 h
          exact end_z F hr hlk (by decide) hG dL_isFree_34
        · have h := ite_f h c7
          refine lv_aload_n hx hb dL_isFree_20 rfl (lv_at hl 0 rfl) ?_
          refine lv_iload_n hx hb dL_isFree_21 rfl (lv_at hl 1 rfl) ?_
          refine lv_iload_n hx hb dL_isFree_22 rfl (lv_at hl 2 rfl) ?_
          obtain ⟨r9, hc8, h⟩ := nbd_n h
          refine k_i (r_runV F hG (n_X5_cell l D ca g ha0 hc8) (kd_lt ha0 (by decide)) (gd5 ha0) rfl (kw16 F.kd) (kw17 F.kd) (kw18 F.kd) (kw1 F.kd) (kw19 F.kd) yd_X5_cell ⟨Nat.le_of_ble_eq_true rfl, Nat.le_of_ble_eq_true rfl⟩ rfl hl.1 rfl (Nat.le_of_ble_eq_true rfl) dL_isFree_23 ⟨Nat.le_of_ble_eq_true rfl, Nat.le_of_ble_eq_true rfl⟩) hG (fun H locs hG => ?_)
          refine lv_if_ne (tgt := 33) hx hb dL_isFree_26 (by decide) (fun c10 => ?_) (fun c10 => ?_)
          · have h := ite_f h c10
            refine lv_iconst (v := 0) hx hb dL_isFree_33 (by decide) ?_
            obtain rfl := som1 h
            exact end_z F hr hlk (by decide) hG dL_isFree_34
          · have h := ite_t h c10
            refine lv_iconst (v := 1) hx hb dL_isFree_29 (by decide) ?_
            refine lv_goto (tgt := 34) hx hb dL_isFree_30 (by decide) ?_
            obtain rfl := som1 h
            exact end_z F hr hlk (by decide) hG dL_isFree_34
set_option maxHeartbeats 4000000 in
set_option maxRecDepth 100000 in
theorem m_L_seen_L21_w {p : Program} {l : Launch} {e : Env} {s : State} {m : MethodId} {args : Array Value} {below : List Frame} {meth : Method} {c : Code} {Q : State → Prop} {D : va_G} {ca : vCA} {g : Nat → Nat} {fu : Nat} {M : Mem} {q0 : Nat} {y1 : Int32} {y2 : Int32} {out : Int32} (F : FX p m c cL_seen 6 s D ca g RL) (hq0 : kd q0 = 5)
    (K0 : ∀ (u4 : Int32) (H : Heap) (locs : List Loc) (ls : Array Slot), out = u4 → GW D ca g s M H locs → lv_has ls 6 [(4, .int u4)] → W p l e ({ frames := 8, cells := 0, slots := 0, locals := 133 }) s m args below meth c H locs 0 0 Q (F0 m 53 ls [])) :
    ∀ (n : Nat) (z4 : Int32) (z5 : Int32), m_L_seen_L21 fu M q0 y1 y2 n z4 z5 = some out → ∀ (H : Heap) (locs : List Loc) (ls : Array Slot), GW D ca g s M H locs → lv_has ls 6 [(0, .ref (g q0)), (1, .int y1), (2, .int y2), (4, .int z4), (5, .int z5)] → W p l e ({ frames := 8, cells := 0, slots := 0, locals := 133 }) s m args below meth c H locs 0 0 Q (F0 m 21 ls []) := by
  have hx := F.1
  have hb := F.2.1
  intro n
  induction n with
  | zero =>
    intro z4 z5 h
    exact absurd h (by simp [m_L_seen_L21])
  | succ n ih =>
    intro z4 z5 h H locs ls hG hl
    rw [m_L_seen_L21] at h
    refine lv_iload hx hb dL_seen_21 (lv_at hl 4 rfl) ?_
    refine lv_iload_n hx hb dL_seen_23 rfl (lv_at hl 2 rfl) ?_
    refine lv_icmp_ge (tgt := 53) hx hb dL_seen_24 (by decide) (fun c6 => ?_) (fun c6 => ?_)
    · have h := ite_t h c6
      exact K0 _ _ _ _ (som1 h).symm hG (lv_sub hl [3] rfl)
    · have h := ite_f h c6
      refine lv_iload hx hb dL_seen_27 (lv_at hl 3 rfl) ?_
      refine lv_aload_n hx hb dL_seen_29 rfl (lv_at hl 0 rfl) ?_
      refine lv_iload hx hb dL_seen_30 (lv_at hl 4 rfl) ?_
      refine lv_iload_n hx hb dL_seen_32 rfl (lv_at hl 1 rfl) ?_
      obtain ⟨r8, hc7, h⟩ := nbd_n h
      refine k_i (r_runV F hG (n_X5_sees l D ca g hq0 hc7) (kd_lt hq0 (by decide)) (gd5 hq0) rfl (kw598 F.kd) (kw599 F.kd) (kw600 F.kd) (kw1 F.kd) (kw601 F.kd) yd_X5_sees ⟨Nat.le_of_ble_eq_true rfl, Nat.le_of_ble_eq_true rfl⟩ rfl hl.1 rfl (Nat.le_of_ble_eq_true rfl) dL_seen_33 ⟨Nat.le_of_ble_eq_true rfl, Nat.le_of_ble_eq_true rfl⟩) hG (fun H locs hG => ?_)
      refine lv_if_eq (tgt := 43) hx hb dL_seen_36 (by decide) (fun c9 => ?_) (fun c9 => ?_)
      · have h := ite_t h c9
        refine lv_iconst (v := 0) hx hb dL_seen_43 (by decide) ?_
        refine lv_iadd hx hb dL_seen_44 ?_
        refine lv_topi (fun x10 ex10 => ?_)
        have h := mlet_n h ex10
        refine lv_istore (lv' := [(4, .int x10), (0, .ref (g q0)), (1, .int y1), (2, .int y2), (5, .int z5)]) hx hb dL_seen_45 hl (by decide) rfl (fun ls hl => ?_)
        obtain ⟨x11, ex11, h⟩ := mlet_e h
        refine lv_iinc (v := x11) (lv' := [(5, .int x11), (4, .int x10), (0, .ref (g q0)), (1, .int y1), (2, .int y2)]) hx hb dL_seen_47 hl (k := 4) rfl (by rw [ex11]; rfl) (by decide) rfl (fun ls hl => ?_)
        refine lv_goto (tgt := 21) hx hb dL_seen_50 (by decide) ?_
        exact ih x10 x11 h _ _ _ hG (lv_sub hl [2, 3, 4, 1, 0] rfl)
      · have h := ite_f h c9
        refine lv_iconst (v := 1) hx hb dL_seen_39 (by decide) ?_
        refine lv_goto (tgt := 44) hx hb dL_seen_40 (by decide) ?_
        refine lv_iadd hx hb dL_seen_44 ?_
        refine lv_topi (fun x12 ex12 => ?_)
        have h := mlet_n h ex12
        refine lv_istore (lv' := [(4, .int x12), (0, .ref (g q0)), (1, .int y1), (2, .int y2), (5, .int z5)]) hx hb dL_seen_45 hl (by decide) rfl (fun ls hl => ?_)
        obtain ⟨x13, ex13, h⟩ := mlet_e h
        refine lv_iinc (v := x13) (lv' := [(5, .int x13), (4, .int x12), (0, .ref (g q0)), (1, .int y1), (2, .int y2)]) hx hb dL_seen_47 hl (k := 4) rfl (by rw [ex13]; rfl) (by decide) rfl (fun ls hl => ?_)
        refine lv_goto (tgt := 21) hx hb dL_seen_50 (by decide) ?_
        exact ih x12 x13 h _ _ _ hG (lv_sub hl [2, 3, 4, 1, 0] rfl)
set_option maxHeartbeats 4000000 in
set_option maxRecDepth 100000 in
theorem c_L_seen (l : Launch) (D : va_G) (ca : vCA) (g : Nat → Nat) {fu : Nat} {M : Mem} {a0 : Nat} {x1 : Int32} {x2 : Int32} {x3 : Int32} {r : Int32} (ha0 : kd a0 = 5) (h : m_L_seen fu M a0 x1 x2 x3 = some r) : cM l yL_seen cL_seen 6 (some .int) { frames := 8, cells := 0, slots := 0, locals := 133 } D ca g M [.ref (g a0), .int x1, .int x2, .int x3] (fun sz => cQi D ca g sz M r) := by
  refine mk_Met (by decide) (Nat.le_of_ble_eq_true rfl) ?_
  intro p e s m below meth c F hr hlk hnm hG ls hl
  have hx := F.1
  have hb := F.2.1
  replace hl : lv_has ls 6 [(0, .ref (g a0)), (1, .int x1), (2, .int x2), (3, .int x3)] := hl
  unfold m_L_seen at h
  refine lv_iload_n hx hb dL_seen_0 rfl (lv_at hl 3 rfl) ?_
  refine lv_if_le (tgt := 15) hx hb dL_seen_1 (by decide) (fun c5 => ?_) (fun c5 => ?_)
  · have h := ite_t h c5
    refine lv_iconst (v := 0) hx hb dL_seen_15 (by decide) ?_
    refine lv_istore (lv' := [(4, .int 0), (0, .ref (g a0)), (1, .int x1), (2, .int x2), (3, .int x3)]) hx hb dL_seen_16 hl (by decide) rfl (fun ls hl => ?_)
    refine lv_iconst (v := 0) hx hb dL_seen_18 (by decide) ?_
    refine lv_istore (lv' := [(5, .int 0), (4, .int 0), (0, .ref (g a0)), (1, .int x1), (2, .int x2), (3, .int x3)]) hx hb dL_seen_19 hl (by decide) rfl (fun ls hl => ?_)
    obtain ⟨o14, ho15, h⟩ := cb1_e h
    refine m_L_seen_L21_w (out := o14) F ha0 ?_ _ _ _ ho15 _ _ _ hG (lv_sub hl [2, 3, 4, 1, 0] rfl)
    · intro x16 H locs ls eo hG hl
      subst o14
      refine lv_iload hx hb dL_seen_53 (lv_at hl 0 rfl) ?_
      obtain rfl := som1 h
      exact end_i F hr hlk hG dL_seen_55
  · have h := ite_f h c5
    refine lv_aload_n hx hb dL_seen_4 rfl (lv_at hl 0 rfl) ?_
    refine lv_iload_n hx hb dL_seen_5 rfl (lv_at hl 1 rfl) ?_
    refine lv_iconst (v := 2) hx hb dL_seen_6 (by decide) ?_
    obtain ⟨r18, hc17, h⟩ := nbd_n h
    refine k_i (r_runV F hG (n_X5_crowd l D ca g ha0 hc17) (kd_lt ha0 (by decide)) (gd5 ha0) rfl (kw98 F.kd) (kw99 F.kd) (kw100 F.kd) (kw1 F.kd) (kw101 F.kd) yd_X5_crowd ⟨Nat.le_of_ble_eq_true rfl, Nat.le_of_ble_eq_true rfl⟩ rfl hl.1 rfl (Nat.le_of_ble_eq_true rfl) dL_seen_7 ⟨Nat.le_of_ble_eq_true rfl, Nat.le_of_ble_eq_true rfl⟩) hG (fun H locs hG => ?_)
    refine lv_if_ne (tgt := 15) hx hb dL_seen_10 (by decide) (fun c19 => ?_) (fun c19 => ?_)
    · have h := ite_f h c19
      refine lv_iconst (v := 0) hx hb dL_seen_15 (by decide) ?_
      refine lv_istore (lv' := [(4, .int 0), (0, .ref (g a0)), (1, .int x1), (2, .int x2), (3, .int x3)]) hx hb dL_seen_16 hl (by decide) rfl (fun ls hl => ?_)
      refine lv_iconst (v := 0) hx hb dL_seen_18 (by decide) ?_
      refine lv_istore (lv' := [(5, .int 0), (4, .int 0), (0, .ref (g a0)), (1, .int x1), (2, .int x2), (3, .int x3)]) hx hb dL_seen_19 hl (by decide) rfl (fun ls hl => ?_)
      obtain ⟨o20, ho21, h⟩ := cb1_e h
      refine m_L_seen_L21_w (out := o20) F ha0 ?_ _ _ _ ho21 _ _ _ hG (lv_sub hl [2, 3, 4, 1, 0] rfl)
      · intro x22 H locs ls eo hG hl
        subst o20
        refine lv_iload hx hb dL_seen_53 (lv_at hl 0 rfl) ?_
        obtain rfl := som1 h
        exact end_i F hr hlk hG dL_seen_55
    · have h := ite_t h c19
      refine lv_iload_n hx hb dL_seen_13 rfl (lv_at hl 3 rfl) ?_
      obtain rfl := som1 h
      exact end_i F hr hlk hG dL_seen_14
set_option maxHeartbeats 4000000 in
set_option maxRecDepth 100000 in
theorem c_L_gather (l : Launch) (D : va_G) (ca : vCA) (g : Nat → Nat) (hst : l.stackTraces = false) {fu : Nat} {M : Mem} {a0 : Nat} {x1 : Int32} {x2 : Int32} {x3 : Int32} {M' : Mem} {r : Int32} (ha0 : kd a0 = 5) (h : m_L_gather fu M a0 x1 x2 x3 = some (M', r)) : cMH l yL_gather cL_gather 5 (some .int) [(0, 7, 8, 56)] { frames := 8, cells := 2, slots := 12, locals := 135 } D ca g M [.ref (g a0), .int x1, .int x2, .int x3] (fun sz => cQi D ca g sz M' r) := by
  refine mk_MetH (by decide) (Nat.le_of_ble_eq_true rfl) ?_
  intro p e s m below meth c F hr hlk htab hG ls hl
  have hx := F.1
  have hb := F.2.1
  replace hl : lv_has ls 5 [(0, .ref (g a0)), (1, .int x1), (2, .int x2), (3, .int x3)] := hl
  unfold m_L_gather at h
  refine lv_aload_n hx hb dL_gather_0 rfl (lv_at hl 0 rfl) ?_
  refine lv_iload_n hx hb dL_gather_1 rfl (lv_at hl 1 rfl) ?_
  refine lv_iload_n hx hb dL_gather_2 rfl (lv_at hl 2 rfl) ?_
  refine lv_iload_n hx hb dL_gather_3 rfl (lv_at hl 3 rfl) ?_
  obtain ⟨o6, hc5, hL7, hR8⟩ := lb_e h
  refine kl_i (x_runV F hG (c_X5_gather l D ca g hst ha0 hc5) (kd_lt ha0 (by decide)) (gd5 ha0) rfl (kw550 F.kd) (kw551 F.kd) (kw552 F.kd) (kw1 F.kd) (kw553 F.kd) yd_X5_gather ⟨Nat.le_of_ble_eq_true rfl, Nat.le_of_ble_eq_true rfl⟩ rfl hl.1 rfl (Nat.le_of_ble_eq_true rfl) dL_gather_4 ⟨Nat.le_of_ble_eq_true rfl, Nat.le_of_ble_eq_true rfl⟩) hG (fun k11 H locs q ce eo9 hG hce hcv hcl => ?_) (fun M13 r10 H locs eo9 hG => ?_)
  · have h := hL7 _ eo9
    by_cases c12 : k11 = 2
    · have h := ite_t h c12
      subst c12
      refine vx_catch (own := RL) (name := xS) (E := xS) F.2.2.2.1 (tableOf []) _ (tableOf []) htab (fun z hz => nomatch hz) (by decide) (by decide) (kw549 F.kd) (kw525 F.kd) hce hcv hcl ?_
      refine lv_astore (lv' := [(4, .ref q), (0, .ref (g a0)), (1, .int x1), (2, .int x2), (3, .int x3)]) hx hb dL_gather_8 hl (by decide) rfl (fun ls hl => ?_)
      refine lv_iconst (v := (-1)) hx hb dL_gather_10 (by decide) ?_
      obtain ⟨rfl, rfl⟩ := som2 h
      exact W.widen (k := 2) (n := 12) (Nat.le_of_ble_eq_true rfl) (Nat.le_of_ble_eq_true rfl) (end_i F hr hlk hG dL_gather_11)
    have h := ite_f h c12
    cases h
  · have h := hR8 _ eo9
    have h := up2_e h
    obtain ⟨rfl, rfl⟩ := som2 h
    exact W.widen (k := 2) (n := 12) (Nat.le_of_ble_eq_true rfl) (Nat.le_of_ble_eq_true rfl) (end_i F hr hlk hG dL_gather_7)
set_option maxHeartbeats 4000000 in
set_option maxRecDepth 100000 in
theorem c_L_patrol (l : Launch) (D : va_G) (ca : vCA) (g : Nat → Nat) (hst : l.stackTraces = false) {fu : Nat} {M : Mem} {a0 : Nat} {x1 : Int32} {x2 : Int32} {x3 : Int32} {x4 : Int32} {M' : Mem} {r : Int32} (ha0 : kd a0 = 5) (h : m_L_patrol fu M a0 x1 x2 x3 x4 = some (M', r)) : cMH l yL_patrol cL_patrol 6 (some .int) [(0, 9, 10, 56)] { frames := 8, cells := 2, slots := 12, locals := 136 } D ca g M [.ref (g a0), .int x1, .int x2, .int x3, .int x4] (fun sz => cQi D ca g sz M' r) := by
  refine mk_MetH (by decide) (Nat.le_of_ble_eq_true rfl) ?_
  intro p e s m below meth c F hr hlk htab hG ls hl
  have hx := F.1
  have hb := F.2.1
  replace hl : lv_has ls 6 [(0, .ref (g a0)), (1, .int x1), (2, .int x2), (3, .int x3), (4, .int x4)] := hl
  unfold m_L_patrol at h
  refine lv_aload_n hx hb dL_patrol_0 rfl (lv_at hl 0 rfl) ?_
  refine lv_iload_n hx hb dL_patrol_1 rfl (lv_at hl 1 rfl) ?_
  refine lv_iload_n hx hb dL_patrol_2 rfl (lv_at hl 2 rfl) ?_
  refine lv_iload_n hx hb dL_patrol_3 rfl (lv_at hl 3 rfl) ?_
  refine lv_iload hx hb dL_patrol_4 (lv_at hl 4 rfl) ?_
  obtain ⟨o7, hc6, hL8, hR9⟩ := lb_e h
  refine kl_i (x_runV F hG (c_X5_patrol l D ca g hst ha0 hc6) (kd_lt ha0 (by decide)) (gd5 ha0) rfl (kw564 F.kd) (kw565 F.kd) (kw566 F.kd) (kw1 F.kd) (kw567 F.kd) yd_X5_patrol ⟨Nat.le_of_ble_eq_true rfl, Nat.le_of_ble_eq_true rfl⟩ rfl hl.1 rfl (Nat.le_of_ble_eq_true rfl) dL_patrol_6 ⟨Nat.le_of_ble_eq_true rfl, Nat.le_of_ble_eq_true rfl⟩) hG (fun k12 H locs q ce eo10 hG hce hcv hcl => ?_) (fun M14 r11 H locs eo10 hG => ?_)
  · have h := hL8 _ eo10
    by_cases c13 : k12 = 2
    · have h := ite_t h c13
      subst c13
      refine vx_catch (own := RL) (name := xS) (E := xS) F.2.2.2.1 (tableOf []) _ (tableOf []) htab (fun z hz => nomatch hz) (by decide) (by decide) (kw549 F.kd) (kw525 F.kd) hce hcv hcl ?_
      refine lv_astore (lv' := [(5, .ref q), (0, .ref (g a0)), (1, .int x1), (2, .int x2), (3, .int x3), (4, .int x4)]) hx hb dL_patrol_10 hl (by decide) rfl (fun ls hl => ?_)
      refine lv_iconst (v := (-1)) hx hb dL_patrol_12 (by decide) ?_
      obtain ⟨rfl, rfl⟩ := som2 h
      exact W.widen (k := 2) (n := 12) (Nat.le_of_ble_eq_true rfl) (Nat.le_of_ble_eq_true rfl) (end_i F hr hlk hG dL_patrol_13)
    have h := ite_f h c13
    cases h
  · have h := hR9 _ eo10
    have h := up2_e h
    obtain ⟨rfl, rfl⟩ := som2 h
    exact W.widen (k := 2) (n := 12) (Nat.le_of_ble_eq_true rfl) (Nat.le_of_ble_eq_true rfl) (end_i F hr hlk hG dL_patrol_9)
set_option maxHeartbeats 4000000 in
set_option maxRecDepth 100000 in
theorem c_L_order (l : Launch) (D : va_G) (ca : vCA) (g : Nat → Nat) (hst : l.stackTraces = false) {fu : Nat} {M : Mem} {a0 : Nat} {x1 : Int32} {x2 : Int32} {M' : Mem} {r : Int32} (ha0 : kd a0 = 5) (h : m_L_order fu M a0 x1 x2 = some (M', r)) : cMH l yL_order cL_order 4 (some .int) [(0, 6, 7, 56)] { frames := 8, cells := 2, slots := 12, locals := 134 } D ca g M [.ref (g a0), .int x1, .int x2] (fun sz => cQi D ca g sz M' r) := by
  refine mk_MetH (by decide) (Nat.le_of_ble_eq_true rfl) ?_
  intro p e s m below meth c F hr hlk htab hG ls hl
  have hx := F.1
  have hb := F.2.1
  replace hl : lv_has ls 4 [(0, .ref (g a0)), (1, .int x1), (2, .int x2)] := hl
  unfold m_L_order at h
  refine lv_aload_n hx hb dL_order_0 rfl (lv_at hl 0 rfl) ?_
  refine lv_iload_n hx hb dL_order_1 rfl (lv_at hl 1 rfl) ?_
  refine lv_iload_n hx hb dL_order_2 rfl (lv_at hl 2 rfl) ?_
  obtain ⟨o5, hc4, hL6, hR7⟩ := lb_e h
  refine kl_i (x_runV F hG (c_X5_order l D ca g hst ha0 hc4) (kd_lt ha0 (by decide)) (gd5 ha0) rfl (kw574 F.kd) (kw575 F.kd) (kw576 F.kd) (kw1 F.kd) (kw577 F.kd) yd_X5_order ⟨Nat.le_of_ble_eq_true rfl, Nat.le_of_ble_eq_true rfl⟩ rfl hl.1 rfl (Nat.le_of_ble_eq_true rfl) dL_order_3 ⟨Nat.le_of_ble_eq_true rfl, Nat.le_of_ble_eq_true rfl⟩) hG (fun k10 H locs q ce eo8 hG hce hcv hcl => ?_) (fun M12 r9 H locs eo8 hG => ?_)
  · have h := hL6 _ eo8
    by_cases c11 : k10 = 2
    · have h := ite_t h c11
      subst c11
      refine vx_catch (own := RL) (name := xS) (E := xS) F.2.2.2.1 (tableOf []) _ (tableOf []) htab (fun z hz => nomatch hz) (by decide) (by decide) (kw549 F.kd) (kw525 F.kd) hce hcv hcl ?_
      refine lv_astore_n (lv' := [(3, .ref q), (0, .ref (g a0)), (1, .int x1), (2, .int x2)]) hx hb dL_order_7 rfl hl (by decide) rfl (fun ls hl => ?_)
      refine lv_iconst (v := (-1)) hx hb dL_order_8 (by decide) ?_
      obtain ⟨rfl, rfl⟩ := som2 h
      exact W.widen (k := 2) (n := 12) (Nat.le_of_ble_eq_true rfl) (Nat.le_of_ble_eq_true rfl) (end_i F hr hlk hG dL_order_9)
    have h := ite_f h c11
    cases h
  · have h := hR7 _ eo8
    have h := up2_e h
    obtain ⟨rfl, rfl⟩ := som2 h
    exact W.widen (k := 2) (n := 12) (Nat.le_of_ble_eq_true rfl) (Nat.le_of_ble_eq_true rfl) (end_i F hr hlk hG dL_order_6)
set_option maxHeartbeats 4000000 in
set_option maxRecDepth 100000 in
theorem c_L_isThere (l : Launch) (D : va_G) (ca : vCA) (g : Nat → Nat) (hst : l.stackTraces = false) {fu : Nat} {M : Mem} {a0 : Nat} {x1 : Int32} {M' : Mem} {r : Int32} (ha0 : kd a0 = 5) (h : m_L_isThere fu M a0 x1 = some (M', r)) : cMH l yL_isThere cL_isThere 3 (some .boolean) [(0, 14, 15, 112)] { frames := 8, cells := 2, slots := 12, locals := 133 } D ca g M [.ref (g a0), .int x1] (fun sz => cQi D ca g sz M' r) := by
  refine mk_MetH (by decide) (Nat.le_of_ble_eq_true rfl) ?_
  intro p e s m below meth c F hr hlk htab hG ls hl
  have hx := F.1
  have hb := F.2.1
  replace hl : lv_has ls 3 [(0, .ref (g a0)), (1, .int x1)] := hl
  unfold m_L_isThere at h
  refine lv_aload_n hx hb dL_isThere_0 rfl (lv_at hl 0 rfl) ?_
  refine lv_iload_n hx hb dL_isThere_1 rfl (lv_at hl 1 rfl) ?_
  refine lv_iconst (v := 0) hx hb dL_isThere_2 (by decide) ?_
  obtain ⟨o4, hc3, hL5, hR6⟩ := lb_e h
  refine kl_p (x_runV F hG (c_X5_crowd l D ca g hst ha0 hc3) (kd_lt ha0 (by decide)) (gd5 ha0) rfl (kw98 F.kd) (kw99 F.kd) (kw100 F.kd) (kw1 F.kd) (kw101 F.kd) yd_X5_crowd ⟨Nat.le_of_ble_eq_true rfl, Nat.le_of_ble_eq_true rfl⟩ rfl hl.1 rfl (Nat.le_of_ble_eq_true rfl) dL_isThere_3 ⟨Nat.le_of_ble_eq_true rfl, Nat.le_of_ble_eq_true rfl⟩) hG (fun k9 H locs q ce eo7 hG hce hcv hcl => ?_) (fun r8 H locs eo7 hG => ?_)
  · have h := hL5 _ eo7
    by_cases c10 : k9 = 1
    · have h := ite_t h c10
      subst c10
      refine vx_catch (own := RL) (name := xI) (E := xI) F.2.2.2.1 (tableOf []) _ (tableOf []) htab (fun z hz => nomatch hz) (by decide) (by decide) (kw591 F.kd) (kw25 F.kd) hce hcv hcl ?_
      refine lv_astore_n (lv' := [(2, .ref q), (0, .ref (g a0)), (1, .int x1)]) hx hb dL_isThere_15 rfl hl (by decide) rfl (fun ls hl => ?_)
      refine lv_iconst (v := 0) hx hb dL_isThere_16 (by decide) ?_
      obtain ⟨rfl, rfl⟩ := som2 h
      exact W.widen (k := 2) (n := 12) (Nat.le_of_ble_eq_true rfl) (Nat.le_of_ble_eq_true rfl) (end_z F hr hlk (by decide) hG dL_isThere_17)
    have h := ite_f h c10
    cases h
  · have h := hR6 _ eo7
    refine lv_if_lt (tgt := 13) hx hb dL_isThere_6 (by decide) (fun c11 => ?_) (fun c11 => ?_)
    · have h := ite_t h c11
      refine lv_iconst (v := 0) hx hb dL_isThere_13 (by decide) ?_
      obtain ⟨rfl, rfl⟩ := som2 h
      exact W.widen (k := 2) (n := 12) (Nat.le_of_ble_eq_true rfl) (Nat.le_of_ble_eq_true rfl) (end_z F hr hlk (by decide) hG dL_isThere_14)
    · have h := ite_f h c11
      refine lv_iconst (v := 1) hx hb dL_isThere_9 (by decide) ?_
      refine lv_goto (tgt := 14) hx hb dL_isThere_10 (by decide) ?_
      obtain ⟨rfl, rfl⟩ := som2 h
      exact W.widen (k := 2) (n := 12) (Nat.le_of_ble_eq_true rfl) (Nat.le_of_ble_eq_true rfl) (end_z F hr hlk (by decide) hG dL_isThere_14)

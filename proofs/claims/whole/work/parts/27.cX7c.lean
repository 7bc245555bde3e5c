set_option maxHeartbeats 4000000 in
set_option maxRecDepth 100000 in
theorem c_X5_mean (l : Launch) (D : va_G) (ca : vCA) (g : Nat → Nat) {fu : Nat} {M : Mem} {a0 : Nat} {r : UInt64} (ha0 : kd a0 = 5) (h : m_X5_mean fu M a0 = some r) : cM l yX5_mean cX5_mean 2 (some .double) { frames := 2, cells := 0, slots := 0, locals := 42 } D ca g M [.ref (g a0)] (fun sz => cQd D ca g sz M r) := by
  refine mk_Met (by decide) (Nat.le_of_ble_eq_true rfl) ?_
  intro p e s m below meth c F hr hlk hnm hG ls hl
  have hx := F.1
  have hb := F.2.1
  replace hl : lv_has ls 2 [(0, .ref (g a0))] := hl
  unfold m_X5_mean at h
  refine lv_aload_n hx hb dX5_mean_0 rfl (lv_at hl 0 rfl) ?_
  have hk2 := (show kd 0 = 1 from rfl)
  refine xg5 F hG ha0 0 (by decide) (kw143 F.kd) (v := .ref (g 0)) rfl dX5_mean_1 ?_
  obtain ⟨r4, hc3, h⟩ := cb1_e h
  refine k_i (r_runVN F hG (c_X1_crowdsLeft l D ca g hk2 hc3) (kd_lt hk2 (by decide)) (gd1 hk2) rfl (kw202 F.kd) (kw204 F.kd) (ks_X1_crowdsLeft F.kd) (kw2 F.kd) (kw205 F.kd) yd_X1_crowdsLeft ⟨Nat.le_of_ble_eq_true rfl, Nat.le_of_ble_eq_true rfl⟩ rfl hl.1 rfl (Nat.le_of_ble_eq_true rfl) dX5_mean_4 ⟨Nat.le_of_ble_eq_true rfl, Nat.le_of_ble_eq_true rfl⟩) hG (fun H locs hG => ?_)
  refine lv_istore_n (lv' := [(1, .int r4), (0, .ref (g a0))]) hx hb dX5_mean_7 rfl hl (by decide) rfl (fun ls hl => ?_)
  refine lv_iload_n hx hb dX5_mean_8 rfl (lv_at hl 0 rfl) ?_
  refine lv_if_ne (tgt := 16) hx hb dX5_mean_9 (by decide) (fun c5 => ?_) (fun c5 => ?_)
  · have h := ite_f h c5
    refine lv_aload_n hx hb dX5_mean_16 rfl (lv_at hl 1 rfl) ?_
    have hk6 := (show kd 0 = 1 from rfl)
    refine xg5 F hG ha0 0 (by decide) (kw143 F.kd) (v := .ref (g 0)) rfl dX5_mean_17 ?_
    obtain ⟨r8, hc7, h⟩ := cb1_e h
    refine k_i (r_runVN F hG (c_X1_peopleLeft l D ca g hk6 hc7) (kd_lt hk6 (by decide)) (gd1 hk6) rfl (kw210 F.kd) (kw212 F.kd) (ks_X1_peopleLeft F.kd) (kw2 F.kd) (kw213 F.kd) yd_X1_peopleLeft ⟨Nat.le_of_ble_eq_true rfl, Nat.le_of_ble_eq_true rfl⟩ rfl hl.1 rfl (Nat.le_of_ble_eq_true rfl) dX5_mean_20 ⟨Nat.le_of_ble_eq_true rfl, Nat.le_of_ble_eq_true rfl⟩) hG (fun H locs hG => ?_)
    refine lv_i2d hx hb dX5_mean_23 ?_
    refine lv_iload_n hx hb dX5_mean_24 rfl (lv_at hl 0 rfl) ?_
    refine lv_i2d hx hb dX5_mean_25 ?_
    obtain ⟨hn9, h⟩ := chk_e h
    refine lv_ddiv hx hb dX5_mean_26 (dok_n hn9) ?_
    obtain rfl := som1 h
    exact end_d F hr hlk hG dX5_mean_27
  · have h := ite_t h c5
    refine lv_dconst0 hx hb dX5_mean_12 ?_
    refine lv_goto (tgt := 27) hx hb dX5_mean_13 (by decide) ?_
    obtain rfl := som1 h
    exact end_d F hr hlk hG dX5_mean_27
set_option maxHeartbeats 4000000 in
set_option maxRecDepth 100000 in
theorem m_X7_counted_L24_w {p : Program} {l : Launch} {e : Env} {s : State} {m : MethodId} {args : Array Value} {below : List Frame} {meth : Method} {c : Code} {Q : State → Prop} {D : va_G} {ca : vCA} {g : Nat → Nat} {fu : Nat} {M : Mem} {q0 : Nat} {y1 : Int32} {y4 : Int32} {q5 : Nat} {y6 : Int32} {out : Int32 × Int32} (F : FX p m c cX7_counted 9 s D ca g RX7) (hq0 : kd q0 = 7) (hq5 : kd q5 = 8)
    (K0 : ∀ (u2 : Int32) (u3 : Int32) (H : Heap) (locs : List Loc) (ls : Array Slot), out = (u2, u3) → GW D ca g s M H locs → lv_has ls 9 [(0, .ref (g q0)), (1, .int y1), (2, .int u2), (3, .int u3), (4, .int y4)] → W p l e ({ frames := 2, cells := 1, slots := 8, locals := 46 }) s m args below meth c H locs 0 0 Q (F0 m 71 ls [])) :
    ∀ (n : Nat) (z2 : Int32) (z3 : Int32) (z7 : Int32), m_X7_counted_L24 fu M q0 y1 y4 q5 y6 n z2 z3 z7 = some out → ∀ (H : Heap) (locs : List Loc) (ls : Array Slot), GW D ca g s M H locs → lv_has ls 9 [(0, .ref (g q0)), (1, .int y1), (2, .int z2), (3, .int z3), (4, .int y4), (5, .ref (g q5)), (6, .int y6), (7, .int z7)] → W p l e ({ frames := 2, cells := 1, slots := 8, locals := 46 }) s m args below meth c H locs 0 0 Q (F0 m 24 ls []) := by
  have hx := F.1
  have hb := F.2.1
  intro n
  induction n with
  | zero =>
    intro z2 z3 z7 h
    exact absurd h (by simp [m_X7_counted_L24])
  | succ n ih =>
    intro z2 z3 z7 h H locs ls hG hl
    rw [m_X7_counted_L24] at h
    refine lv_iload hx hb dX7_counted_24 (lv_at hl 7 rfl) ?_
    refine lv_iload hx hb dX7_counted_26 (lv_at hl 6 rfl) ?_
    refine lv_icmp_ge (tgt := 71) hx hb dX7_counted_28 (by decide) (fun c6 => ?_) (fun c6 => ?_)
    · have h := ite_t h c6
      exact K0 _ _ _ _ _ (som1 h).symm hG (lv_sub hl [0, 1, 2, 3, 4] rfl)
    · have h := ite_f h c6
      refine lv_aload hx hb dX7_counted_31 (lv_at hl 5 rfl) ?_
      refine lv_iload hx hb dX7_counted_33 (lv_at hl 7 rfl) ?_
      obtain ⟨hi7, h⟩ := chk_e h
      refine r_ald F hG hq5 hi7 dX7_counted_35 ?_
      refine lv_topi (fun x8 ex8 => ?_)
      have h := mlet_n h ex8
      refine lv_istore (lv' := [(8, .int x8), (0, .ref (g q0)), (1, .int y1), (2, .int z2), (3, .int z3), (4, .int y4), (5, .ref (g q5)), (6, .int y6), (7, .int z7)]) hx hb dX7_counted_36 hl (by decide) rfl (fun ls hl => ?_)
      refine lv_iload_n hx hb dX7_counted_38 rfl (lv_at hl 3 rfl) ?_
      refine lv_iload hx hb dX7_counted_39 (lv_at hl 0 rfl) ?_
      refine lv_iconst (v := (-1)) hx hb dX7_counted_41 (by decide) ?_
      refine lv_icmp_ne (tgt := 49) hx hb dX7_counted_42 (by decide) (fun c9 => ?_) (fun c9 => ?_)
      · have h := ite_f h c9
        refine lv_iconst (v := 0) hx hb dX7_counted_49 (by decide) ?_
        refine lv_iadd hx hb dX7_counted_50 ?_
        refine lv_topi (fun x10 ex10 => ?_)
        have h := mlet_n h ex10
        refine lv_istore_n (lv' := [(2, .int x10), (8, .int x8), (0, .ref (g q0)), (1, .int y1), (3, .int z3), (4, .int y4), (5, .ref (g q5)), (6, .int y6), (7, .int z7)]) hx hb dX7_counted_51 rfl hl (by decide) rfl (fun ls hl => ?_)
        refine lv_iload_n hx hb dX7_counted_52 rfl (lv_at hl 4 rfl) ?_
        refine lv_iload hx hb dX7_counted_53 (lv_at hl 1 rfl) ?_
        refine lv_if_ne (tgt := 62) hx hb dX7_counted_55 (by decide) (fun c11 => ?_) (fun c11 => ?_)
        · have h := ite_f h c11
          refine lv_iconst (v := 0) hx hb dX7_counted_62 (by decide) ?_
          refine lv_iadd hx hb dX7_counted_63 ?_
          refine lv_topi (fun x12 ex12 => ?_)
          have h := mlet_n h ex12
          refine lv_istore_n (lv' := [(3, .int x12), (2, .int x10), (8, .int x8), (0, .ref (g q0)), (1, .int y1), (4, .int y4), (5, .ref (g q5)), (6, .int y6), (7, .int z7)]) hx hb dX7_counted_64 rfl hl (by decide) rfl (fun ls hl => ?_)
          obtain ⟨x13, ex13, h⟩ := mlet_e h
          refine lv_iinc (v := x13) (lv' := [(7, .int x13), (3, .int x12), (2, .int x10), (8, .int x8), (0, .ref (g q0)), (1, .int y1), (4, .int y4), (5, .ref (g q5)), (6, .int y6)]) hx hb dX7_counted_65 hl (k := 8) rfl (by rw [ex13]; rfl) (by decide) rfl (fun ls hl => ?_)
          refine lv_goto (tgt := 24) hx hb dX7_counted_68 (by decide) ?_
          exact ih x10 x12 x13 h _ _ _ hG (lv_sub hl [4, 5, 2, 1, 6, 7, 8, 0] rfl)
        · have h := ite_t h c11
          refine lv_iconst (v := 1) hx hb dX7_counted_58 (by decide) ?_
          refine lv_goto (tgt := 63) hx hb dX7_counted_59 (by decide) ?_
          refine lv_iadd hx hb dX7_counted_63 ?_
          refine lv_topi (fun x14 ex14 => ?_)
          have h := mlet_n h ex14
          refine lv_istore_n (lv' := [(3, .int x14), (2, .int x10), (8, .int x8), (0, .ref (g q0)), (1, .int y1), (4, .int y4), (5, .ref (g q5)), (6, .int y6), (7, .int z7)]) hx hb dX7_counted_64 rfl hl (by decide) rfl (fun ls hl => ?_)
          obtain ⟨x15, ex15, h⟩ := mlet_e h
          refine lv_iinc (v := x15) (lv' := [(7, .int x15), (3, .int x14), (2, .int x10), (8, .int x8), (0, .ref (g q0)), (1, .int y1), (4, .int y4), (5, .ref (g q5)), (6, .int y6)]) hx hb dX7_counted_65 hl (k := 8) rfl (by rw [ex15]; rfl) (by decide) rfl (fun ls hl => ?_)
          refine lv_goto (tgt := 24) hx hb dX7_counted_68 (by decide) ?_
          exact ih x10 x14 x15 h _ _ _ hG (lv_sub hl [4, 5, 2, 1, 6, 7, 8, 0] rfl)
      · have h := ite_t h c9
        refine lv_iconst (v := 1) hx hb dX7_counted_45 (by decide) ?_
        refine lv_goto (tgt := 50) hx hb dX7_counted_46 (by decide) ?_
        refine lv_iadd hx hb dX7_counted_50 ?_
        refine lv_topi (fun x16 ex16 => ?_)
        have h := mlet_n h ex16
        refine lv_istore_n (lv' := [(2, .int x16), (8, .int x8), (0, .ref (g q0)), (1, .int y1), (3, .int z3), (4, .int y4), (5, .ref (g q5)), (6, .int y6), (7, .int z7)]) hx hb dX7_counted_51 rfl hl (by decide) rfl (fun ls hl => ?_)
        refine lv_iload_n hx hb dX7_counted_52 rfl (lv_at hl 4 rfl) ?_
        refine lv_iload hx hb dX7_counted_53 (lv_at hl 1 rfl) ?_
        refine lv_if_ne (tgt := 62) hx hb dX7_counted_55 (by decide) (fun c17 => ?_) (fun c17 => ?_)
        · have h := ite_f h c17
          refine lv_iconst (v := 0) hx hb dX7_counted_62 (by decide) ?_
          refine lv_iadd hx hb dX7_counted_63 ?_
          refine lv_topi (fun x18 ex18 => ?_)
          have h := mlet_n h ex18
          refine lv_istore_n (lv' := [(3, .int x18), (2, .int x16), (8, .int x8), (0, .ref (g q0)), (1, .int y1), (4, .int y4), (5, .ref (g q5)), (6, .int y6), (7, .int z7)]) hx hb dX7_counted_64 rfl hl (by decide) rfl (fun ls hl => ?_)
          obtain ⟨x19, ex19, h⟩ := mlet_e h
          refine lv_iinc (v := x19) (lv' := [(7, .int x19), (3, .int x18), (2, .int x16), (8, .int x8), (0, .ref (g q0)), (1, .int y1), (4, .int y4), (5, .ref (g q5)), (6, .int y6)]) hx hb dX7_counted_65 hl (k := 8) rfl (by rw [ex19]; rfl) (by decide) rfl (fun ls hl => ?_)
          refine lv_goto (tgt := 24) hx hb dX7_counted_68 (by decide) ?_
          exact ih x16 x18 x19 h _ _ _ hG (lv_sub hl [4, 5, 2, 1, 6, 7, 8, 0] rfl)
        · have h := ite_t h c17
          refine lv_iconst (v := 1) hx hb dX7_counted_58 (by decide) ?_
          refine lv_goto (tgt := 63) hx hb dX7_counted_59 (by decide) ?_
          refine lv_iadd hx hb dX7_counted_63 ?_
          refine lv_topi (fun x20 ex20 => ?_)
          have h := mlet_n h ex20
          refine lv_istore_n (lv' := [(3, .int x20), (2, .int x16), (8, .int x8), (0, .ref (g q0)), (1, .int y1), (4, .int y4), (5, .ref (g q5)), (6, .int y6), (7, .int z7)]) hx hb dX7_counted_64 rfl hl (by decide) rfl (fun ls hl => ?_)
          obtain ⟨x21, ex21, h⟩ := mlet_e h
          refine lv_iinc (v := x21) (lv' := [(7, .int x21), (3, .int x20), (2, .int x16), (8, .int x8), (0, .ref (g q0)), (1, .int y1), (4, .int y4), (5, .ref (g q5)), (6, .int y6)]) hx hb dX7_counted_65 hl (k := 8) rfl (by rw [ex21]; rfl) (by decide) rfl (fun ls hl => ?_)
          refine lv_goto (tgt := 24) hx hb dX7_counted_68 (by decide) ?_
          exact ih x16 x20 x21 h _ _ _ hG (lv_sub hl [4, 5, 2, 1, 6, 7, 8, 0] rfl)
set_option maxHeartbeats 4000000 in
set_option maxRecDepth 100000 in
theorem m_X7_counted_L74_w {p : Program} {l : Launch} {e : Env} {s : State} {m : MethodId} {args : Array Value} {below : List Frame} {meth : Method} {c : Code} {Q : State → Prop} {D : va_G} {ca : vCA} {g : Nat → Nat} {fu : Nat} {M : Mem} {q0 : Nat} {y1 : Int32} {y2 : Int32} {y3 : Int32} {out : Int32} (F : FX p m c cX7_counted 9 s D ca g RX7) (hq0 : kd q0 = 7)
    (K0 : ∀ (u4 : Int32) (H : Heap) (locs : List Loc) (ls : Array Slot), out = u4 → GW D ca g s M H locs → lv_has ls 9 [(0, .ref (g q0)), (1, .int y1), (2, .int y2), (3, .int y3), (4, .int u4)] → W p l e ({ frames := 2, cells := 1, slots := 8, locals := 46 }) s m args below meth c H locs 0 0 Q (F0 m 104 ls [])) :
    ∀ (n : Nat) (z4 : Int32) (z5 : Int32), m_X7_counted_L74 fu M q0 y1 y2 y3 n z4 z5 = some out → ∀ (H : Heap) (locs : List Loc) (ls : Array Slot), GW D ca g s M H locs → lv_has ls 9 [(0, .ref (g q0)), (1, .int y1), (2, .int y2), (3, .int y3), (4, .int z4), (5, .int z5)] → W p l e ({ frames := 2, cells := 1, slots := 8, locals := 46 }) s m args below meth c H locs 0 0 Q (F0 m 74 ls []) := by
  have hx := F.1
  have hb := F.2.1
  intro n
  induction n with
  | zero =>
    intro z4 z5 h
    exact absurd h (by simp [m_X7_counted_L74])
  | succ n ih =>
    intro z4 z5 h H locs ls hG hl
    rw [m_X7_counted_L74] at h
    refine lv_iload hx hb dX7_counted_74 (lv_at hl 5 rfl) ?_
    refine lv_aload_n hx hb dX7_counted_76 rfl (lv_at hl 0 rfl) ?_
    refine xg7 F hG hq0 1 (by decide) (kw686 F.kd) (v := .int (M q0 1)) rfl dX7_counted_77 ?_
    refine lv_icmp_ge (tgt := 104) hx hb dX7_counted_80 (by decide) (fun c26 => ?_) (fun c26 => ?_)
    · have h := ite_t h c26
      exact K0 _ _ _ _ (som1 h).symm hG (lv_sub hl [0, 1, 2, 3, 4] rfl)
    · have h := ite_f h c26
      refine lv_iload hx hb dX7_counted_83 (lv_at hl 4 rfl) ?_
      refine lv_aload_n hx hb dX7_counted_85 rfl (lv_at hl 0 rfl) ?_
      have hk27 := (show kd 49 = 6 from rfl)
      refine xg7 F hG hq0 7 (by decide) (kw696 F.kd) (v := .ref (g 49)) rfl dX7_counted_86 ?_
      have hk28 := kt_s7 hk27
      refine xg6N F hG hk27 7 (by decide) (kw655 F.kd) (v := .ref (g (49 + 7))) rfl dX7_counted_89 ?_
      refine lv_iload hx hb dX7_counted_92 (lv_at hl 5 rfl) ?_
      obtain ⟨hi29, h⟩ := chk_e h
      refine r_ald F hG hk28 hi29 dX7_counted_94 ?_
      refine lv_iadd hx hb dX7_counted_95 ?_
      refine lv_topi (fun x30 ex30 => ?_)
      have h := mlet_n h ex30
      refine lv_istore (lv' := [(4, .int x30), (0, .ref (g q0)), (1, .int y1), (2, .int y2), (3, .int y3), (5, .int z5)]) hx hb dX7_counted_96 hl (by decide) rfl (fun ls hl => ?_)
      obtain ⟨x31, ex31, h⟩ := mlet_e h
      refine lv_iinc (v := x31) (lv' := [(5, .int x31), (4, .int x30), (0, .ref (g q0)), (1, .int y1), (2, .int y2), (3, .int y3)]) hx hb dX7_counted_98 hl (k := 5) rfl (by rw [ex31]; rfl) (by decide) rfl (fun ls hl => ?_)
      refine lv_goto (tgt := 74) hx hb dX7_counted_101 (by decide) ?_
      exact ih x30 x31 h _ _ _ hG (lv_sub hl [2, 3, 4, 5, 1, 0] rfl)
set_option maxHeartbeats 4000000 in
set_option maxRecDepth 100000 in
theorem c_X7_counted (l : Launch) (D : va_G) (ca : vCA) (g : Nat → Nat) {fu : Nat} {M : Mem} {a0 : Nat} {x1 : Int32} {r : Int32} (ha0 : kd a0 = 7) (h : m_X7_counted fu M a0 x1 = some r) : cM l yX7_counted cX7_counted 9 (some .int) { frames := 2, cells := 1, slots := 8, locals := 46 } D ca g M [.ref (g a0), .int x1] (fun sz => cQi D ca g sz M r) := by
  refine mk_Met (by decide) (Nat.le_of_ble_eq_true rfl) ?_
  intro p e s m below meth c F hr hlk hnm hG ls hl
  have hx := F.1
  have hb := F.2.1
  replace hl : lv_has ls 9 [(0, .ref (g a0)), (1, .int x1)] := hl
  unfold m_X7_counted at h
  refine lv_iconst (v := 0) hx hb dX7_counted_0 (by decide) ?_
  refine lv_istore_n (lv' := [(2, .int 0), (0, .ref (g a0)), (1, .int x1)]) hx hb dX7_counted_1 rfl hl (by decide) rfl (fun ls hl => ?_)
  refine lv_iconst (v := 0) hx hb dX7_counted_2 (by decide) ?_
  refine lv_istore_n (lv' := [(3, .int 0), (2, .int 0), (0, .ref (g a0)), (1, .int x1)]) hx hb dX7_counted_3 rfl hl (by decide) rfl (fun ls hl => ?_)
  refine lv_iconst (v := 0) hx hb dX7_counted_4 (by decide) ?_
  refine lv_istore (lv' := [(4, .int 0), (3, .int 0), (2, .int 0), (0, .ref (g a0)), (1, .int x1)]) hx hb dX7_counted_5 hl (by decide) rfl (fun ls hl => ?_)
  refine lv_aload_n hx hb dX7_counted_7 rfl (lv_at hl 3 rfl) ?_
  have hk3 := (show kd 49 = 6 from rfl)
  refine xg7 F hG ha0 7 (by decide) (kw696 F.kd) (v := .ref (g 49)) rfl dX7_counted_8 ?_
  have hk4 := kt_s1 hk3
  refine xg6N F hG hk3 1 (by decide) (kw643 F.kd) (v := .ref (g (49 + 1))) rfl dX7_counted_11 ?_
  refine lv_astore (lv' := [(5, .ref (g (49 + 1))), (4, .int 0), (3, .int 0), (2, .int 0), (0, .ref (g a0)), (1, .int x1)]) hx hb dX7_counted_14 hl (by decide) rfl (fun ls hl => ?_)
  refine lv_aload hx hb dX7_counted_16 (lv_at hl 0 rfl) ?_
  refine r_alen F hG hk4 (v := (Int32.ofNat (alen (49 + 1)))) rfl dX7_counted_18 ?_
  refine lv_topi (fun x5 ex5 => ?_)
  have h := mlet_n h ex5
  refine lv_istore (lv' := [(6, .int x5), (5, .ref (g (49 + 1))), (4, .int 0), (3, .int 0), (2, .int 0), (0, .ref (g a0)), (1, .int x1)]) hx hb dX7_counted_19 hl (by decide) rfl (fun ls hl => ?_)
  refine lv_iconst (v := 0) hx hb dX7_counted_21 (by decide) ?_
  refine lv_istore (lv' := [(7, .int 0), (6, .int x5), (5, .ref (g (49 + 1))), (4, .int 0), (3, .int 0), (2, .int 0), (0, .ref (g a0)), (1, .int x1)]) hx hb dX7_counted_22 hl (by decide) rfl (fun ls hl => ?_)
  obtain ⟨o22, ho23, h⟩ := cb1_e h
  refine m_X7_counted_L24_w (out := o22) F ha0 hk4 ?_ _ _ _ _ ho23 _ _ _ hG (lv_sub hl [6, 7, 5, 4, 3, 2, 1, 0] rfl)
  · intro x24 x25 H locs ls eo hG hl
    subst o22
    have h := up2_e h
    refine lv_iconst (v := 0) hx hb dX7_counted_71 (by decide) ?_
    refine lv_istore (lv' := [(5, .int 0), (0, .ref (g a0)), (1, .int x1), (2, .int x24), (3, .int x25), (4, .int 0)]) hx hb dX7_counted_72 hl (by decide) rfl (fun ls hl => ?_)
    obtain ⟨o32, ho33, h⟩ := cb1_e h
    refine m_X7_counted_L74_w (out := o32) F ha0 ?_ _ _ _ ho33 _ _ _ hG (lv_sub hl [1, 2, 3, 4, 5, 0] rfl)
    · intro x34 H locs ls eo hG hl
      subst o32
      refine lv_bipush (v := 8) hx hb dX7_counted_104 (by decide) ?_
      refine r_newE (N := 8) F hG (by decide) (by decide) (Nat.le_of_ble_eq_true rfl) (Nat.le_of_ble_eq_true rfl) (Nat.le_of_ble_eq_true rfl) dX7_counted_106 (fun q35 H hqq35 hE hG => ?_)
      refine lv_dup hx hb dX7_counted_108 rfl ?_
      refine lv_iconst (v := 0) hx hb dX7_counted_109 (by decide) ?_
      refine lv_aload_n hx hb dX7_counted_110 rfl (lv_at hl 0 rfl) ?_
      have hk36 := (show kd 49 = 6 from rfl)
      refine xg7 F hG ha0 7 (by decide) (kw696 F.kd) (v := .ref (g 49)) rfl dX7_counted_111 ?_
      refine xg6N F hG hk36 0 (by decide) (kw641 F.kd) (v := .int (M 49 0)) rfl dX7_counted_114 ?_
      refine r_astE F hG hqq35 hE (by decide) dX7_counted_117 (fun H locs hE hG => ?_)
      refine lv_dup hx hb dX7_counted_118 rfl ?_
      refine lv_iconst (v := 1) hx hb dX7_counted_119 (by decide) ?_
      refine lv_iload_n hx hb dX7_counted_120 rfl (lv_at hl 2 rfl) ?_
      refine r_astE F hG hqq35 hE (by decide) dX7_counted_121 (fun H locs hE hG => ?_)
      refine lv_dup hx hb dX7_counted_122 rfl ?_
      refine lv_iconst (v := 2) hx hb dX7_counted_123 (by decide) ?_
      refine lv_aload_n hx hb dX7_counted_124 rfl (lv_at hl 0 rfl) ?_
      have hk37 := (show kd 49 = 6 from rfl)
      refine xg7 F hG ha0 7 (by decide) (kw696 F.kd) (v := .ref (g 49)) rfl dX7_counted_125 ?_
      obtain ⟨r39, hc38, h⟩ := cb1_e h
      refine k_iE (r_runV F hG (c_X6_barricades l D ca g hk37 hc38) (kd_lt hk37 (by decide)) (gd6 hk37) rfl (kw812 F.kd) (kw813 F.kd) (kw814 F.kd) (kw8 F.kd) (kw815 F.kd) yd_X6_barricades ⟨Nat.le_of_ble_eq_true rfl, Nat.le_of_ble_eq_true rfl⟩ rfl hl.1 rfl (Nat.le_of_ble_eq_true rfl) dX7_counted_128 ⟨Nat.le_of_ble_eq_true rfl, Nat.le_of_ble_eq_true rfl⟩) hG hqq35 hE (fun H locs hE hG => ?_)
      refine r_astE F hG hqq35 hE (by decide) dX7_counted_131 (fun H locs hE hG => ?_)
      refine lv_dup hx hb dX7_counted_132 rfl ?_
      refine lv_iconst (v := 3) hx hb dX7_counted_133 (by decide) ?_
      refine lv_iload_n hx hb dX7_counted_134 rfl (lv_at hl 3 rfl) ?_
      refine r_astE F hG hqq35 hE (by decide) dX7_counted_135 (fun H locs hE hG => ?_)
      refine lv_dup hx hb dX7_counted_136 rfl ?_
      refine lv_iconst (v := 4) hx hb dX7_counted_137 (by decide) ?_
      refine lv_aload_n hx hb dX7_counted_138 rfl (lv_at hl 0 rfl) ?_
      obtain ⟨r41, hc40, h⟩ := cb1_e h
      refine k_iE (r_runV F hG (c_X7_left l D ca g ha0 hc40) (kd_lt ha0 (by decide)) (gd7 ha0) rfl (kw817 F.kd) (kw819 F.kd) (ks_X7_left F.kd) (kw7 F.kd) (kw820 F.kd) yd_X7_left ⟨Nat.le_of_ble_eq_true rfl, Nat.le_of_ble_eq_true rfl⟩ rfl hl.1 rfl (Nat.le_of_ble_eq_true rfl) dX7_counted_139 ⟨Nat.le_of_ble_eq_true rfl, Nat.le_of_ble_eq_true rfl⟩) hG hqq35 hE (fun H locs hE hG => ?_)
      refine r_astE F hG hqq35 hE (by decide) dX7_counted_142 (fun H locs hE hG => ?_)
      refine lv_dup hx hb dX7_counted_143 rfl ?_
      refine lv_iconst (v := 5) hx hb dX7_counted_144 (by decide) ?_
      refine lv_aload_n hx hb dX7_counted_145 rfl (lv_at hl 0 rfl) ?_
      have hk42 := (show kd 49 = 6 from rfl)
      refine xg7 F hG ha0 7 (by decide) (kw696 F.kd) (v := .ref (g 49)) rfl dX7_counted_146 ?_
      obtain ⟨r44, hc43, h⟩ := cb1_e h
      refine k_iE (r_runV F hG (c_X6_allPeople l D ca g hk42 hc43) (kd_lt hk42 (by decide)) (gd6 hk42) rfl (kw821 F.kd) (kw822 F.kd) (kw823 F.kd) (kw8 F.kd) (kw824 F.kd) yd_X6_allPeople ⟨Nat.le_of_ble_eq_true rfl, Nat.le_of_ble_eq_true rfl⟩ rfl hl.1 rfl (Nat.le_of_ble_eq_true rfl) dX7_counted_149 ⟨Nat.le_of_ble_eq_true rfl, Nat.le_of_ble_eq_true rfl⟩) hG hqq35 hE (fun H locs hE hG => ?_)
      refine r_astE F hG hqq35 hE (by decide) dX7_counted_152 (fun H locs hE hG => ?_)
      refine lv_dup hx hb dX7_counted_153 rfl ?_
      refine lv_bipush (v := 6) hx hb dX7_counted_154 (by decide) ?_
      refine lv_aload_n hx hb dX7_counted_156 rfl (lv_at hl 0 rfl) ?_
      refine xg7 F hG ha0 2 (by decide) (kw688 F.kd) (v := .int (M a0 2)) rfl dX7_counted_157 ?_
      refine r_astE F hG hqq35 hE (by decide) dX7_counted_160 (fun H locs hE hG => ?_)
      refine lv_dup hx hb dX7_counted_161 rfl ?_
      refine lv_bipush (v := 7) hx hb dX7_counted_162 (by decide) ?_
      refine lv_iload hx hb dX7_counted_164 (lv_at hl 4 rfl) ?_
      refine r_astE F hG hqq35 hE (by decide) dX7_counted_166 (fun H locs hE hG => ?_)
      refine lv_astore (lv' := [(5, .ref q35), (0, .ref (g a0)), (1, .int x1), (2, .int x24), (3, .int x25), (4, .int x34)]) hx hb dX7_counted_167 hl (by decide) rfl (fun ls hl => ?_)
      refine lv_aload hx hb dX7_counted_169 (lv_at hl 0 rfl) ?_
      refine lv_iload_n hx hb dX7_counted_171 rfl (lv_at hl 2 rfl) ?_
      obtain ⟨hi45, h⟩ := chk_e h
      refine r_aldE F hG hE hi45 dX7_counted_172 ?_
      obtain rfl := som1 h
      exact W.widen (k := 1) (n := 8) (Nat.le_of_ble_eq_true rfl) (Nat.le_of_ble_eq_true rfl) (end_i F hr hlk hG dX7_counted_173)
set_option maxHeartbeats 4000000 in
set_option maxRecDepth 100000 in
theorem c_X7_count (l : Launch) (D : va_G) (ca : vCA) (g : Nat → Nat) {fu : Nat} {M : Mem} {a0 : Nat} {x1 : Int32} {M' : Mem} {r : Int32} (ha0 : kd a0 = 7) (h : m_X7_count fu M a0 x1 = some (M', r)) : cM l yX7_count cX7_count 2 (some .int) { frames := 3, cells := 1, slots := 8, locals := 74 } D ca g M [.ref (g a0), .int x1] (fun sz => cQi D ca g sz M' r) := by
  refine mk_Met (by decide) (Nat.le_of_ble_eq_true rfl) ?_
  intro p e s m below meth c F hr hlk hnm hG ls hl
  have hx := F.1
  have hb := F.2.1
  replace hl : lv_has ls 2 [(0, .ref (g a0)), (1, .int x1)] := hl
  unfold m_X7_count at h
  refine lv_aload_n hx hb dX7_count_0 rfl (lv_at hl 0 rfl) ?_
  refine lv_iconst (v := 0) hx hb dX7_count_1 (by decide) ?_
  obtain ⟨M3, eM3, h⟩ := mlet_e h
  refine xp7 F hG ha0 eM3 rfl (by decide) (kw684 F.kd) rfl rfl rfl dX7_count_2 (fun H locs hG => ?_)
  refine lv_iload_n hx hb dX7_count_5 rfl (lv_at hl 1 rfl) ?_
  refine lv_iconst (v := 0) hx hb dX7_count_6 (by decide) ?_
  refine lv_bipush (v := 7) hx hb dX7_count_7 (by decide) ?_
  obtain ⟨r5, hc4, h⟩ := cb1_e h
  refine k_i (r_runS F hG (c_X7_isIn l D ca g hc4) (kw728 F.kd) (kw729 F.kd) (kw7 F.kd) (kw730 F.kd) yd_X7_isIn ⟨Nat.le_of_ble_eq_true rfl, Nat.le_of_ble_eq_true rfl⟩ rfl hl.1 rfl (Nat.le_of_ble_eq_true rfl) dX7_count_9 ⟨Nat.le_of_ble_eq_true rfl, Nat.le_of_ble_eq_true rfl⟩) hG (fun H locs hG => ?_)
  refine lv_if_eq (tgt := 23) hx hb dX7_count_12 (by decide) (fun c6 => ?_) (fun c6 => ?_)
  · have h := ite_t h c6
    refine lv_aload_n hx hb dX7_count_23 rfl (lv_at hl 0 rfl) ?_
    refine lv_iconst (v := 1) hx hb dX7_count_24 (by decide) ?_
    obtain ⟨M9, r8, hc7, h⟩ := cb2_e h
    refine k_i (r_runV F hG (c_X7_no l D ca g ha0 hc7) (kd_lt ha0 (by decide)) (gd7 ha0) rfl (kw731 F.kd) (kw733 F.kd) (ks_X7_no F.kd) (kw7 F.kd) (kw734 F.kd) yd_X7_no ⟨Nat.le_of_ble_eq_true rfl, Nat.le_of_ble_eq_true rfl⟩ rfl hl.1 rfl (Nat.le_of_ble_eq_true rfl) dX7_count_25 ⟨Nat.le_of_ble_eq_true rfl, Nat.le_of_ble_eq_true rfl⟩) hG (fun H locs hG => ?_)
    obtain ⟨rfl, rfl⟩ := som2 h
    exact W.widen (k := 1) (n := 8) (Nat.le_of_ble_eq_true rfl) (Nat.le_of_ble_eq_true rfl) (end_i F hr hlk hG dX7_count_28)
  · have h := ite_f h c6
    refine lv_aload_n hx hb dX7_count_15 rfl (lv_at hl 0 rfl) ?_
    refine lv_iload_n hx hb dX7_count_16 rfl (lv_at hl 1 rfl) ?_
    obtain ⟨r11, hc10, h⟩ := cb1_e h
    refine k_i (r_runV F hG (c_X7_counted l D ca g ha0 hc10) (kd_lt ha0 (by decide)) (gd7 ha0) rfl (kw808 F.kd) (kw810 F.kd) (ks_X7_counted F.kd) (kw7 F.kd) (kw811 F.kd) yd_X7_counted ⟨Nat.le_of_ble_eq_true rfl, Nat.le_of_ble_eq_true rfl⟩ rfl hl.1 rfl (Nat.le_of_ble_eq_true rfl) dX7_count_17 ⟨Nat.le_of_ble_eq_true rfl, Nat.le_of_ble_eq_true rfl⟩) hG (fun H locs hG => ?_)
    refine lv_goto (tgt := 28) hx hb dX7_count_20 (by decide) ?_
    obtain ⟨rfl, rfl⟩ := som2 h
    exact W.widen (k := 1) (n := 8) (Nat.le_of_ble_eq_true rfl) (Nat.le_of_ble_eq_true rfl) (end_i F hr hlk hG dX7_count_28)
set_option maxHeartbeats 4000000 in
set_option maxRecDepth 100000 in
theorem c_X7_mean (l : Launch) (D : va_G) (ca : vCA) (g : Nat → Nat) {fu : Nat} {M : Mem} {a0 : Nat} {M' : Mem} {r : UInt64} (ha0 : kd a0 = 7) (h : m_X7_mean fu M a0 = some (M', r)) : cM l yX7_mean cX7_mean 1 (some .double) { frames := 1, cells := 0, slots := 0, locals := 22 } D ca g M [.ref (g a0)] (fun sz => cQd D ca g sz M' r) := by
  refine mk_Met (by decide) (Nat.le_of_ble_eq_true rfl) ?_
  intro p e s m below meth c F hr hlk hnm hG ls hl
  have hx := F.1
  have hb := F.2.1
  replace hl : lv_has ls 1 [(0, .ref (g a0))] := hl
  unfold m_X7_mean at h
  refine lv_aload_n hx hb dX7_mean_0 rfl (lv_at hl 0 rfl) ?_
  refine lv_iconst (v := 0) hx hb dX7_mean_1 (by decide) ?_
  obtain ⟨M2, eM2, h⟩ := mlet_e h
  refine xp7 F hG ha0 eM2 rfl (by decide) (kw684 F.kd) rfl rfl rfl dX7_mean_2 (fun H locs hG => ?_)
  refine lv_aload_n hx hb dX7_mean_5 rfl (lv_at hl 0 rfl) ?_
  obtain ⟨r4, hc3, h⟩ := cb1_e h
  refine k_i (r_runV F hG (c_X7_left l D ca g ha0 hc3) (kd_lt ha0 (by decide)) (gd7 ha0) rfl (kw817 F.kd) (kw819 F.kd) (ks_X7_left F.kd) (kw7 F.kd) (kw820 F.kd) yd_X7_left ⟨Nat.le_of_ble_eq_true rfl, Nat.le_of_ble_eq_true rfl⟩ rfl hl.1 rfl (Nat.le_of_ble_eq_true rfl) dX7_mean_6 ⟨Nat.le_of_ble_eq_true rfl, Nat.le_of_ble_eq_true rfl⟩) hG (fun H locs hG => ?_)
  refine lv_if_ne (tgt := 16) hx hb dX7_mean_9 (by decide) (fun c5 => ?_) (fun c5 => ?_)
  · have h := ite_f h c5
    refine lv_aload_n hx hb dX7_mean_16 rfl (lv_at hl 0 rfl) ?_
    have hk6 := (show kd 49 = 6 from rfl)
    refine xg7 F hG ha0 7 (by decide) (kw696 F.kd) (v := .ref (g 49)) rfl dX7_mean_17 ?_
    obtain ⟨r8, hc7, h⟩ := cb1_e h
    refine k_i (r_runV F hG (c_X6_allPeople l D ca g hk6 hc7) (kd_lt hk6 (by decide)) (gd6 hk6) rfl (kw821 F.kd) (kw822 F.kd) (kw823 F.kd) (kw8 F.kd) (kw824 F.kd) yd_X6_allPeople ⟨Nat.le_of_ble_eq_true rfl, Nat.le_of_ble_eq_true rfl⟩ rfl hl.1 rfl (Nat.le_of_ble_eq_true rfl) dX7_mean_20 ⟨Nat.le_of_ble_eq_true rfl, Nat.le_of_ble_eq_true rfl⟩) hG (fun H locs hG => ?_)
    refine lv_i2d hx hb dX7_mean_23 ?_
    refine lv_aload_n hx hb dX7_mean_24 rfl (lv_at hl 0 rfl) ?_
    obtain ⟨r10, hc9, h⟩ := cb1_e h
    refine k_i (r_runV F hG (c_X7_left l D ca g ha0 hc9) (kd_lt ha0 (by decide)) (gd7 ha0) rfl (kw817 F.kd) (kw819 F.kd) (ks_X7_left F.kd) (kw7 F.kd) (kw820 F.kd) yd_X7_left ⟨Nat.le_of_ble_eq_true rfl, Nat.le_of_ble_eq_true rfl⟩ rfl hl.1 rfl (Nat.le_of_ble_eq_true rfl) dX7_mean_25 ⟨Nat.le_of_ble_eq_true rfl, Nat.le_of_ble_eq_true rfl⟩) hG (fun H locs hG => ?_)
    refine lv_i2d hx hb dX7_mean_28 ?_
    obtain ⟨hn11, h⟩ := chk_e h
    refine lv_ddiv hx hb dX7_mean_29 (dok_n hn11) ?_
    obtain ⟨rfl, rfl⟩ := som2 h
    exact end_d F hr hlk hG dX7_mean_30
  · have h := ite_t h c5
    refine lv_dconst0 hx hb dX7_mean_12 ?_
    refine lv_goto (tgt := 30) hx hb dX7_mean_13 (by decide) ?_
    obtain ⟨rfl, rfl⟩ := som2 h
    exact end_d F hr hlk hG dX7_mean_30
set_option maxHeartbeats 4000000 in
set_option maxRecDepth 100000 in
theorem m_X7_digest_L38_w {p : Program} {l : Launch} {e : Env} {s : State} {m : MethodId} {args : Array Value} {below : List Frame} {meth : Method} {c : Code} {Q : State → Prop} {D : va_G} {ca : vCA} {g : Nat → Nat} {fu : Nat} {M : Mem} {q0 : Nat} {out : Int64} (F : FX p m c cX7_digest 5 s D ca g RX7) (hq0 : kd q0 = 7)
    (K0 : ∀ (u1 : Int64) (H : Heap) (locs : List Loc) (ls : Array Slot), out = u1 → GW D ca g s M H locs → lv_has ls 5 [(0, .ref (g q0)), (1, .long u1)] → W p l e ({ frames := 4, cells := 8, slots := 64, locals := 93 }) s m args below meth c H locs 8 64 Q (F0 m 67 ls [])) :
    ∀ (n : Nat) (z1 : Int64) (z3 : Int32), m_X7_digest_L38 fu M q0 n z1 z3 = some out → ∀ (H : Heap) (locs : List Loc) (ls : Array Slot), GW D ca g s M H locs → lv_has ls 5 [(0, .ref (g q0)), (1, .long z1), (3, .int z3)] → W p l e ({ frames := 4, cells := 8, slots := 64, locals := 93 }) s m args below meth c H locs 8 64 Q (F0 m 38 ls []) := by
  have hx := F.1
  have hb := F.2.1
  intro n
  induction n with
  | zero =>
    intro z1 z3 h
    exact absurd h (by simp [m_X7_digest_L38])
  | succ n ih =>
    intro z1 z3 h H locs ls hG hl
    rw [m_X7_digest_L38] at h
    refine lv_iload_n hx hb dX7_digest_38 rfl (lv_at hl 2 rfl) ?_
    refine lv_bipush (v := 108) hx hb dX7_digest_39 (by decide) ?_
    refine lv_icmp_ge (tgt := 67) hx hb dX7_digest_41 (by decide) (fun c36 => ?_) (fun c36 => ?_)
    · have h := ite_t h c36
      exact K0 _ _ _ _ (som1 h).symm hG (lv_sub hl [0, 1] rfl)
    · have h := ite_f h c36
      refine lv_lload_n hx hb dX7_digest_44 rfl (lv_at hl 1 rfl) ?_
      refine lv_ldc2 (v := 31) hx hb F.2.2.2.1 (kw918 F.kd) dX7_digest_45 ?_
      refine lv_lmul hx hb dX7_digest_48 ?_
      refine lv_aload_n hx hb dX7_digest_49 rfl (lv_at hl 0 rfl) ?_
      have hk37 := (show kd 49 = 6 from rfl)
      refine xg7 F hG hq0 7 (by decide) (kw696 F.kd) (v := .ref (g 49)) rfl dX7_digest_50 ?_
      have hk38 := kt_s1 hk37
      refine xg6N F hG hk37 1 (by decide) (kw643 F.kd) (v := .ref (g (49 + 1))) rfl dX7_digest_53 ?_
      refine lv_iload_n hx hb dX7_digest_56 rfl (lv_at hl 2 rfl) ?_
      obtain ⟨hi39, h⟩ := chk_e h
      refine r_ald F hG hk38 hi39 dX7_digest_57 ?_
      refine lv_i2l (v := ((M (49 + 1) z3.toNatClampNeg) : Int32).toInt64) hx hb dX7_digest_58 rfl ?_
      refine lv_ladd hx hb dX7_digest_59 ?_
      refine lv_topl (fun x40 ex40 => ?_)
      have h := mlet_n h ex40
      refine lv_lstore_n (lv' := [(1, .long x40), (0, .ref (g q0)), (3, .int z3)]) hx hb dX7_digest_60 rfl hl (by decide) rfl (fun ls hl => ?_)
      obtain ⟨x41, ex41, h⟩ := mlet_e h
      refine lv_iinc (v := x41) (lv' := [(3, .int x41), (1, .long x40), (0, .ref (g q0))]) hx hb dX7_digest_61 hl (k := 2) rfl (by rw [ex41]; rfl) (by decide) rfl (fun ls hl => ?_)
      refine lv_goto (tgt := 38) hx hb dX7_digest_64 (by decide) ?_
      exact ih x40 x41 h _ _ _ hG (lv_sub hl [2, 1, 0] rfl)
set_option maxHeartbeats 4000000 in
set_option maxRecDepth 100000 in
theorem m_X7_digest_L80_w {p : Program} {l : Launch} {e : Env} {s : State} {m : MethodId} {args : Array Value} {below : List Frame} {meth : Method} {c : Code} {Q : State → Prop} {D : va_G} {ca : vCA} {g : Nat → Nat} {fu : Nat} {M : Mem} {q0 : Nat} {y3 : Int32} {out : Int64} (F : FX p m c cX7_digest 5 s D ca g RX7) (hq0 : kd q0 = 7)
    (K0 : ∀ (u1 : Int64) (H : Heap) (locs : List Loc) (ls : Array Slot), out = u1 → GW D ca g s M H locs → lv_has ls 5 [(0, .ref (g q0)), (1, .long u1), (3, .int y3)] → W p l e ({ frames := 4, cells := 8, slots := 64, locals := 93 }) s m args below meth c H locs 8 64 Q (F0 m 108 ls [])) :
    ∀ (n : Nat) (z1 : Int64) (z4 : Int32), m_X7_digest_L80 fu M q0 y3 n z1 z4 = some out → ∀ (H : Heap) (locs : List Loc) (ls : Array Slot), GW D ca g s M H locs → lv_has ls 5 [(0, .ref (g q0)), (1, .long z1), (3, .int y3), (4, .int z4)] → W p l e ({ frames := 4, cells := 8, slots := 64, locals := 93 }) s m args below meth c H locs 8 64 Q (F0 m 80 ls []) := by
  have hx := F.1
  have hb := F.2.1
  intro n
  induction n with
  | zero =>
    intro z1 z4 h
    exact absurd h (by simp [m_X7_digest_L80])
  | succ n ih =>
    intro z1 z4 h H locs ls hG hl
    rw [m_X7_digest_L80] at h
    refine lv_iload hx hb dX7_digest_80 (lv_at hl 3 rfl) ?_
    refine lv_bipush (v := 7) hx hb dX7_digest_82 (by decide) ?_
    refine lv_icmp_gt (tgt := 108) hx hb dX7_digest_84 (by decide) (fun c46 => ?_) (fun c46 => ?_)
    · have h := ite_t h c46
      exact K0 _ _ _ _ (som1 h).symm hG (lv_sub hl [0, 1, 2] rfl)
    · have h := ite_f h c46
      refine lv_lload_n hx hb dX7_digest_87 rfl (lv_at hl 1 rfl) ?_
      refine lv_ldc2 (v := 31) hx hb F.2.2.2.1 (kw918 F.kd) dX7_digest_88 ?_
      refine lv_lmul hx hb dX7_digest_91 ?_
      refine lv_aload_n hx hb dX7_digest_92 rfl (lv_at hl 0 rfl) ?_
      refine lv_iload_n hx hb dX7_digest_93 rfl (lv_at hl 2 rfl) ?_
      refine lv_iload hx hb dX7_digest_94 (lv_at hl 3 rfl) ?_
      obtain ⟨r48, hc47, h⟩ := cb1_e h
      refine k_i (r_runV F hG (c_X7_crowdTold l D ca g hq0 hc47) (kd_lt hq0 (by decide)) (gd7 hq0) rfl (kw771 F.kd) (kw773 F.kd) (ks_X7_crowdTold F.kd) (kw7 F.kd) (kw774 F.kd) yd_X7_crowdTold ⟨Nat.le_of_ble_eq_true rfl, Nat.le_of_ble_eq_true rfl⟩ rfl hl.1 rfl (Nat.le_of_ble_eq_true rfl) dX7_digest_96 ⟨Nat.le_of_ble_eq_true rfl, Nat.le_of_ble_eq_true rfl⟩) hG (fun H locs hG => ?_)
      refine lv_i2l (v := (r48 : Int32).toInt64) hx hb dX7_digest_99 rfl ?_
      refine lv_ladd hx hb dX7_digest_100 ?_
      refine lv_topl (fun x49 ex49 => ?_)
      have h := mlet_n h ex49
      refine lv_lstore_n (lv' := [(1, .long x49), (0, .ref (g q0)), (3, .int y3), (4, .int z4)]) hx hb dX7_digest_101 rfl hl (by decide) rfl (fun ls hl => ?_)
      obtain ⟨x50, ex50, h⟩ := mlet_e h
      refine lv_iinc (v := x50) (lv' := [(4, .int x50), (1, .long x49), (0, .ref (g q0)), (3, .int y3)]) hx hb dX7_digest_102 hl (k := 3) rfl (by rw [ex50]; rfl) (by decide) rfl (fun ls hl => ?_)
      refine lv_goto (tgt := 80) hx hb dX7_digest_105 (by decide) ?_
      exact ih x49 x50 h _ _ _ hG (lv_sub hl [2, 1, 3, 0] rfl)
set_option maxHeartbeats 4000000 in
set_option maxRecDepth 100000 in
theorem m_X7_digest_L111_w {p : Program} {l : Launch} {e : Env} {s : State} {m : MethodId} {args : Array Value} {below : List Frame} {meth : Method} {c : Code} {Q : State → Prop} {D : va_G} {ca : vCA} {g : Nat → Nat} {fu : Nat} {M : Mem} {q0 : Nat} {y3 : Int32} {out : Int64} (F : FX p m c cX7_digest 5 s D ca g RX7) (hq0 : kd q0 = 7)
    (K0 : ∀ (u1 : Int64) (H : Heap) (locs : List Loc) (ls : Array Slot), out = u1 → GW D ca g s M H locs → lv_has ls 5 [(0, .ref (g q0)), (1, .long u1), (3, .int y3)] → W p l e ({ frames := 4, cells := 8, slots := 64, locals := 93 }) s m args below meth c H locs 8 64 Q (F0 m 154 ls [])) :
    ∀ (n : Nat) (z1 : Int64) (z4 : Int32), m_X7_digest_L111 fu M q0 y3 n z1 z4 = some out → ∀ (H : Heap) (locs : List Loc) (ls : Array Slot), GW D ca g s M H locs → lv_has ls 5 [(0, .ref (g q0)), (1, .long z1), (3, .int y3), (4, .int z4)] → W p l e ({ frames := 4, cells := 8, slots := 64, locals := 93 }) s m args below meth c H locs 8 64 Q (F0 m 111 ls []) := by
  have hx := F.1
  have hb := F.2.1
  intro n
  induction n with
  | zero =>
    intro z1 z4 h
    exact absurd h (by simp [m_X7_digest_L111])
  | succ n ih =>
    intro z1 z4 h H locs ls hG hl
    rw [m_X7_digest_L111] at h
    refine lv_iload hx hb dX7_digest_111 (lv_at hl 3 rfl) ?_
    refine lv_aload_n hx hb dX7_digest_113 rfl (lv_at hl 0 rfl) ?_
    have hk54 := (show kd 49 = 6 from rfl)
    refine xg7 F hG hq0 7 (by decide) (kw696 F.kd) (v := .ref (g 49)) rfl dX7_digest_114 ?_
    have hk55 := kt_s5 hk54
    refine xg6N F hG hk54 5 (by decide) (kw651 F.kd) (v := .ref (g (49 + 5))) rfl dX7_digest_117 ?_
    refine lv_iload_n hx hb dX7_digest_120 rfl (lv_at hl 2 rfl) ?_
    obtain ⟨hi56, h⟩ := chk_e h
    refine r_ald F hG hk55 hi56 dX7_digest_121 ?_
    refine lv_icmp_ge (tgt := 154) hx hb dX7_digest_122 (by decide) (fun c57 => ?_) (fun c57 => ?_)
    · have h := ite_t h c57
      exact K0 _ _ _ _ (som1 h).symm hG (lv_sub hl [0, 1, 2] rfl)
    · have h := ite_f h c57
      refine lv_lload_n hx hb dX7_digest_125 rfl (lv_at hl 1 rfl) ?_
      refine lv_ldc2 (v := 31) hx hb F.2.2.2.1 (kw918 F.kd) dX7_digest_126 ?_
      refine lv_lmul hx hb dX7_digest_129 ?_
      refine lv_aload_n hx hb dX7_digest_130 rfl (lv_at hl 0 rfl) ?_
      have hk58 := (show kd 49 = 6 from rfl)
      refine xg7 F hG hq0 7 (by decide) (kw696 F.kd) (v := .ref (g 49)) rfl dX7_digest_131 ?_
      have hk59 := kt_s6 hk58
      refine xg6N F hG hk58 6 (by decide) (kw653 F.kd) (v := .ref (g (49 + 6))) rfl dX7_digest_134 ?_
      refine lv_bipush (v := 24) hx hb dX7_digest_137 (by decide) ?_
      refine lv_iload_n hx hb dX7_digest_139 rfl (lv_at hl 2 rfl) ?_
      refine lv_imul hx hb dX7_digest_140 ?_
      refine lv_iload hx hb dX7_digest_141 (lv_at hl 3 rfl) ?_
      refine lv_iadd hx hb dX7_digest_143 ?_
      obtain ⟨hi60, h⟩ := chk_e h
      refine r_ald F hG hk59 hi60 dX7_digest_144 ?_
      refine lv_i2l (v := ((M (49 + 6) ((24 * y3) + z4).toNatClampNeg) : Int32).toInt64) hx hb dX7_digest_145 rfl ?_
      refine lv_ladd hx hb dX7_digest_146 ?_
      refine lv_topl (fun x61 ex61 => ?_)
      have h := mlet_n h ex61
      refine lv_lstore_n (lv' := [(1, .long x61), (0, .ref (g q0)), (3, .int y3), (4, .int z4)]) hx hb dX7_digest_147 rfl hl (by decide) rfl (fun ls hl => ?_)
      obtain ⟨x62, ex62, h⟩ := mlet_e h
      refine lv_iinc (v := x62) (lv' := [(4, .int x62), (1, .long x61), (0, .ref (g q0)), (3, .int y3)]) hx hb dX7_digest_148 hl (k := 3) rfl (by rw [ex62]; rfl) (by decide) rfl (fun ls hl => ?_)
      refine lv_goto (tgt := 111) hx hb dX7_digest_151 (by decide) ?_
      exact ih x61 x62 h _ _ _ hG (lv_sub hl [2, 1, 3, 0] rfl)
set_option maxHeartbeats 4000000 in
set_option maxRecDepth 100000 in
theorem m_X7_digest_L69_w {p : Program} {l : Launch} {e : Env} {s : State} {m : MethodId} {args : Array Value} {below : List Frame} {meth : Method} {c : Code} {Q : State → Prop} {D : va_G} {ca : vCA} {g : Nat → Nat} {fu : Nat} {M : Mem} {q0 : Nat} {out : Int64} (F : FX p m c cX7_digest 5 s D ca g RX7) (hq0 : kd q0 = 7)
    (K0 : ∀ (u1 : Int64) (H : Heap) (locs : List Loc) (ls : Array Slot), out = u1 → GW D ca g s M H locs → lv_has ls 5 [(0, .ref (g q0)), (1, .long u1)] → W p l e ({ frames := 4, cells := 8, slots := 64, locals := 93 }) s m args below meth c H locs 8 64 Q (F0 m 160 ls [])) :
    ∀ (n : Nat) (z1 : Int64) (z3 : Int32), m_X7_digest_L69 fu M q0 n z1 z3 = some out → ∀ (H : Heap) (locs : List Loc) (ls : Array Slot), GW D ca g s M H locs → lv_has ls 5 [(0, .ref (g q0)), (1, .long z1), (3, .int z3)] → W p l e ({ frames := 4, cells := 8, slots := 64, locals := 93 }) s m args below meth c H locs 8 64 Q (F0 m 69 ls []) := by
  have hx := F.1
  have hb := F.2.1
  intro n
  induction n with
  | zero =>
    intro z1 z3 h
    exact absurd h (by simp [m_X7_digest_L69])
  | succ n ih =>
    intro z1 z3 h H locs ls hG hl
    rw [m_X7_digest_L69] at h
    refine lv_iload_n hx hb dX7_digest_69 rfl (lv_at hl 2 rfl) ?_
    refine lv_aload_n hx hb dX7_digest_70 rfl (lv_at hl 0 rfl) ?_
    refine xg7 F hG hq0 1 (by decide) (kw686 F.kd) (v := .int (M q0 1)) rfl dX7_digest_71 ?_
    refine lv_icmp_ge (tgt := 160) hx hb dX7_digest_74 (by decide) (fun c45 => ?_) (fun c45 => ?_)
    · have h := ite_t h c45
      exact K0 _ _ _ _ (som1 h).symm hG (lv_sub hl [0, 1] rfl)
    · have h := ite_f h c45
      refine lv_iconst (v := 0) hx hb dX7_digest_77 (by decide) ?_
      refine lv_istore (lv' := [(4, .int 0), (0, .ref (g q0)), (1, .long z1), (3, .int z3)]) hx hb dX7_digest_78 hl (by decide) rfl (fun ls hl => ?_)
      obtain ⟨o51, ho52, h⟩ := cb1_e h
      refine m_X7_digest_L80_w (out := o51) F hq0 ?_ _ _ _ ho52 _ _ _ hG (lv_sub hl [1, 2, 3, 0] rfl)
      · intro x53 H locs ls eo hG hl
        subst o51
        refine lv_iconst (v := 0) hx hb dX7_digest_108 (by decide) ?_
        refine lv_istore (lv' := [(4, .int 0), (0, .ref (g q0)), (1, .long x53), (3, .int z3)]) hx hb dX7_digest_109 hl (by decide) rfl (fun ls hl => ?_)
        obtain ⟨o63, ho64, h⟩ := cb1_e h
        refine m_X7_digest_L111_w (out := o63) F hq0 ?_ _ _ _ ho64 _ _ _ hG (lv_sub hl [1, 2, 3, 0] rfl)
        · intro x65 H locs ls eo hG hl
          subst o63
          obtain ⟨x66, ex66, h⟩ := mlet_e h
          refine lv_iinc (v := x66) (lv' := [(3, .int x66), (0, .ref (g q0)), (1, .long x65)]) hx hb dX7_digest_154 hl (k := 2) rfl (by rw [ex66]; rfl) (by decide) rfl (fun ls hl => ?_)
          refine lv_goto (tgt := 69) hx hb dX7_digest_157 (by decide) ?_
          exact ih x65 x66 h _ _ _ hG (lv_sub hl [1, 2, 0] rfl)
set_option maxHeartbeats 4000000 in
set_option maxRecDepth 100000 in
theorem m_X7_digest_L173_w {p : Program} {l : Launch} {e : Env} {s : State} {m : MethodId} {args : Array Value} {below : List Frame} {meth : Method} {c : Code} {Q : State → Prop} {D : va_G} {ca : vCA} {g : Nat → Nat} {fu : Nat} {M : Mem} {q0 : Nat} {y3 : Int32} {out : Int64} (F : FX p m c cX7_digest 5 s D ca g RX7) (hq0 : kd q0 = 7)
    (K0 : ∀ (u1 : Int64) (H : Heap) (locs : List Loc) (ls : Array Slot), out = u1 → GW D ca g s M H locs → lv_has ls 5 [(0, .ref (g q0)), (1, .long u1), (3, .int y3)] → W p l e ({ frames := 4, cells := 8, slots := 64, locals := 93 }) s m args below meth c H locs 8 64 Q (F0 m 200 ls [])) :
    ∀ (n : Nat) (z1 : Int64) (z4 : Int32), m_X7_digest_L173 fu M q0 y3 n z1 z4 = some out → ∀ (H : Heap) (locs : List Loc) (ls : Array Slot), GW D ca g s M H locs → lv_has ls 5 [(0, .ref (g q0)), (1, .long z1), (3, .int y3), (4, .int z4)] → W p l e ({ frames := 4, cells := 8, slots := 64, locals := 93 }) s m args below meth c H locs 8 64 Q (F0 m 173 ls []) := by
  have hx := F.1
  have hb := F.2.1
  intro n
  induction n with
  | zero =>
    intro z1 z4 h
    exact absurd h (by simp [m_X7_digest_L173])
  | succ n ih =>
    intro z1 z4 h H locs ls hG hl
    rw [m_X7_digest_L173] at h
    refine lv_iload hx hb dX7_digest_173 (lv_at hl 3 rfl) ?_
    refine lv_iconst (v := 3) hx hb dX7_digest_175 (by decide) ?_
    refine lv_icmp_gt (tgt := 200) hx hb dX7_digest_176 (by decide) (fun c71 => ?_) (fun c71 => ?_)
    · have h := ite_t h c71
      exact K0 _ _ _ _ (som1 h).symm hG (lv_sub hl [0, 1, 2] rfl)
    · have h := ite_f h c71
      refine lv_lload_n hx hb dX7_digest_179 rfl (lv_at hl 1 rfl) ?_
      refine lv_ldc2 (v := 31) hx hb F.2.2.2.1 (kw918 F.kd) dX7_digest_180 ?_
      refine lv_lmul hx hb dX7_digest_183 ?_
      refine lv_aload_n hx hb dX7_digest_184 rfl (lv_at hl 0 rfl) ?_
      refine lv_iload_n hx hb dX7_digest_185 rfl (lv_at hl 2 rfl) ?_
      refine lv_iload hx hb dX7_digest_186 (lv_at hl 3 rfl) ?_
      obtain ⟨r73, hc72, h⟩ := cb1_e h
      refine k_i (r_runV F hG (c_X7_guardTold l D ca g hq0 hc72) (kd_lt hq0 (by decide)) (gd7 hq0) rfl (kw795 F.kd) (kw797 F.kd) (ks_X7_guardTold F.kd) (kw7 F.kd) (kw798 F.kd) yd_X7_guardTold ⟨Nat.le_of_ble_eq_true rfl, Nat.le_of_ble_eq_true rfl⟩ rfl hl.1 rfl (Nat.le_of_ble_eq_true rfl) dX7_digest_188 ⟨Nat.le_of_ble_eq_true rfl, Nat.le_of_ble_eq_true rfl⟩) hG (fun H locs hG => ?_)
      refine lv_i2l (v := (r73 : Int32).toInt64) hx hb dX7_digest_191 rfl ?_
      refine lv_ladd hx hb dX7_digest_192 ?_
      refine lv_topl (fun x74 ex74 => ?_)
      have h := mlet_n h ex74
      refine lv_lstore_n (lv' := [(1, .long x74), (0, .ref (g q0)), (3, .int y3), (4, .int z4)]) hx hb dX7_digest_193 rfl hl (by decide) rfl (fun ls hl => ?_)
      obtain ⟨x75, ex75, h⟩ := mlet_e h
      refine lv_iinc (v := x75) (lv' := [(4, .int x75), (1, .long x74), (0, .ref (g q0)), (3, .int y3)]) hx hb dX7_digest_194 hl (k := 3) rfl (by rw [ex75]; rfl) (by decide) rfl (fun ls hl => ?_)
      refine lv_goto (tgt := 173) hx hb dX7_digest_197 (by decide) ?_
      exact ih x74 x75 h _ _ _ hG (lv_sub hl [2, 1, 3, 0] rfl)
set_option maxHeartbeats 4000000 in
set_option maxRecDepth 100000 in
theorem m_X7_digest_L162_w {p : Program} {l : Launch} {e : Env} {s : State} {m : MethodId} {args : Array Value} {below : List Frame} {meth : Method} {c : Code} {Q : State → Prop} {D : va_G} {ca : vCA} {g : Nat → Nat} {fu : Nat} {M : Mem} {q0 : Nat} {out : Int64} (F : FX p m c cX7_digest 5 s D ca g RX7) (hq0 : kd q0 = 7)
    (K0 : ∀ (u1 : Int64) (H : Heap) (locs : List Loc) (ls : Array Slot), out = u1 → GW D ca g s M H locs → lv_has ls 5 [(1, .long u1)] → W p l e ({ frames := 4, cells := 8, slots := 64, locals := 93 }) s m args below meth c H locs 8 64 Q (F0 m 206 ls [])) :
    ∀ (n : Nat) (z1 : Int64) (z3 : Int32), m_X7_digest_L162 fu M q0 n z1 z3 = some out → ∀ (H : Heap) (locs : List Loc) (ls : Array Slot), GW D ca g s M H locs → lv_has ls 5 [(0, .ref (g q0)), (1, .long z1), (3, .int z3)] → W p l e ({ frames := 4, cells := 8, slots := 64, locals := 93 }) s m args below meth c H locs 8 64 Q (F0 m 162 ls []) := by
  have hx := F.1
  have hb := F.2.1
  intro n
  induction n with
  | zero =>
    intro z1 z3 h
    exact absurd h (by simp [m_X7_digest_L162])
  | succ n ih =>
    intro z1 z3 h H locs ls hG hl
    rw [m_X7_digest_L162] at h
    refine lv_iload_n hx hb dX7_digest_162 rfl (lv_at hl 2 rfl) ?_
    refine lv_aload_n hx hb dX7_digest_163 rfl (lv_at hl 0 rfl) ?_
    refine xg7 F hG hq0 2 (by decide) (kw688 F.kd) (v := .int (M q0 2)) rfl dX7_digest_164 ?_
    refine lv_icmp_ge (tgt := 206) hx hb dX7_digest_167 (by decide) (fun c70 => ?_) (fun c70 => ?_)
    · have h := ite_t h c70
      exact K0 _ _ _ _ (som1 h).symm hG (lv_sub hl [1] rfl)
    · have h := ite_f h c70
      refine lv_iconst (v := 0) hx hb dX7_digest_170 (by decide) ?_
      refine lv_istore (lv' := [(4, .int 0), (0, .ref (g q0)), (1, .long z1), (3, .int z3)]) hx hb dX7_digest_171 hl (by decide) rfl (fun ls hl => ?_)
      obtain ⟨o76, ho77, h⟩ := cb1_e h
      refine m_X7_digest_L173_w (out := o76) F hq0 ?_ _ _ _ ho77 _ _ _ hG (lv_sub hl [1, 2, 3, 0] rfl)
      · intro x78 H locs ls eo hG hl
        subst o76
        obtain ⟨x79, ex79, h⟩ := mlet_e h
        refine lv_iinc (v := x79) (lv' := [(3, .int x79), (0, .ref (g q0)), (1, .long x78)]) hx hb dX7_digest_200 hl (k := 2) rfl (by rw [ex79]; rfl) (by decide) rfl (fun ls hl => ?_)
        refine lv_goto (tgt := 162) hx hb dX7_digest_203 (by decide) ?_
        exact ih x78 x79 h _ _ _ hG (lv_sub hl [1, 2, 0] rfl)
set_option maxHeartbeats 4000000 in
set_option maxRecDepth 100000 in
theorem c_X7_digest (l : Launch) (D : va_G) (ca : vCA) (g : Nat → Nat) {fu : Nat} {M : Mem} {a0 : Nat} {M' : Mem} {r : Int64} (ha0 : kd a0 = 7) (h : m_X7_digest fu M a0 = some (M', r)) : cM l yX7_digest cX7_digest 5 (some .long) { frames := 4, cells := 8, slots := 64, locals := 93 } D ca g M [.ref (g a0)] (fun sz => cQl D ca g sz M' r) := by
  refine mk_Met (by decide) (Nat.le_of_ble_eq_true rfl) ?_
  intro p e s m below meth c F hr hlk hnm hG ls hl
  have hx := F.1
  have hb := F.2.1
  replace hl : lv_has ls 5 [(0, .ref (g a0))] := hl
  unfold m_X7_digest at h
  refine lv_aload_n hx hb dX7_digest_0 rfl (lv_at hl 0 rfl) ?_
  refine lv_iconst (v := 0) hx hb dX7_digest_1 (by decide) ?_
  obtain ⟨M2, eM2, h⟩ := mlet_e h
  refine xp7 F hG ha0 eM2 rfl (by decide) (kw684 F.kd) rfl rfl rfl dX7_digest_2 (fun H locs hG => ?_)
  refine lv_ldc2 (v := 997) hx hb F.2.2.2.1 (kw917 F.kd) dX7_digest_5 ?_
  refine lv_lstore_n (lv' := [(1, .long 997), (0, .ref (g a0))]) hx hb dX7_digest_8 rfl hl (by decide) rfl (fun ls hl => ?_)
  refine lv_iconst (v := 0) hx hb dX7_digest_9 (by decide) ?_
  refine lv_istore_n (lv' := [(3, .int 0), (1, .long 997), (0, .ref (g a0))]) hx hb dX7_digest_10 rfl hl (by decide) rfl (fun ls hl => ?_)
  refine lv_iload_n hx hb dX7_digest_11 rfl (lv_at hl 0 rfl) ?_
  refine lv_bipush (v := 7) hx hb dX7_digest_12 (by decide) ?_
  refine lv_icmp_gt (tgt := 36) hx hb dX7_digest_14 (by decide) (fun c3 => absurd c3 (by decide)) (fun _ => ?_)
  refine lv_lload_n hx hb dX7_digest_17 rfl (lv_at hl 1 rfl) ?_
  refine lv_ldc2 (v := 31) hx hb F.2.2.2.1 (kw918 F.kd) dX7_digest_18 ?_
  refine lv_lmul hx hb dX7_digest_21 ?_
  refine lv_aload_n hx hb dX7_digest_22 rfl (lv_at hl 2 rfl) ?_
  refine lv_iload_n hx hb dX7_digest_23 rfl (lv_at hl 0 rfl) ?_
  obtain ⟨r5, hc4, h⟩ := cb1_e h
  refine k_i (r_runV F hG (c_X7_counted l D ca g ha0 hc4) (kd_lt ha0 (by decide)) (gd7 ha0) rfl (kw808 F.kd) (kw810 F.kd) (ks_X7_counted F.kd) (kw7 F.kd) (kw811 F.kd) yd_X7_counted ⟨Nat.le_of_ble_eq_true rfl, Nat.le_of_ble_eq_true rfl⟩ rfl hl.1 rfl (Nat.le_of_ble_eq_true rfl) dX7_digest_24 ⟨Nat.le_of_ble_eq_true rfl, Nat.le_of_ble_eq_true rfl⟩) hG (fun H locs hG => ?_)
  refine lv_i2l (v := (r5 : Int32).toInt64) hx hb dX7_digest_27 rfl ?_
  refine lv_ladd hx hb dX7_digest_28 ?_
  refine lv_topl (fun x6 ex6 => ?_)
  have h := mlet_n h ex6
  refine lv_lstore_n (lv' := [(1, .long x6), (3, .int 0), (0, .ref (g a0))]) hx hb dX7_digest_29 rfl hl (by decide) rfl (fun ls hl => ?_)
  refine lv_iinc (v := 1) (lv' := [(3, .int 1), (1, .long x6), (0, .ref (g a0))]) hx hb dX7_digest_30 hl (k := 1) rfl (by decide) (by decide) rfl (fun ls hl => ?_)
  refine lv_goto (tgt := 11) hx hb dX7_digest_33 (by decide) ?_
  refine lv_iload_n hx hb dX7_digest_11 rfl (lv_at hl 0 rfl) ?_
  refine lv_bipush (v := 7) hx hb dX7_digest_12 (by decide) ?_
  refine lv_icmp_gt (tgt := 36) hx hb dX7_digest_14 (by decide) (fun c7 => absurd c7 (by decide)) (fun _ => ?_)
  refine lv_lload_n hx hb dX7_digest_17 rfl (lv_at hl 1 rfl) ?_
  refine lv_ldc2 (v := 31) hx hb F.2.2.2.1 (kw918 F.kd) dX7_digest_18 ?_
  refine lv_lmul hx hb dX7_digest_21 ?_
  refine lv_aload_n hx hb dX7_digest_22 rfl (lv_at hl 2 rfl) ?_
  refine lv_iload_n hx hb dX7_digest_23 rfl (lv_at hl 0 rfl) ?_
  obtain ⟨r9, hc8, h⟩ := cb1_e h
  refine k_i (r_runV F hG (c_X7_counted l D ca g ha0 hc8) (kd_lt ha0 (by decide)) (gd7 ha0) rfl (kw808 F.kd) (kw810 F.kd) (ks_X7_counted F.kd) (kw7 F.kd) (kw811 F.kd) yd_X7_counted ⟨Nat.le_of_ble_eq_true rfl, Nat.le_of_ble_eq_true rfl⟩ rfl hl.1 rfl (Nat.le_of_ble_eq_true rfl) dX7_digest_24 ⟨Nat.le_of_ble_eq_true rfl, Nat.le_of_ble_eq_true rfl⟩) hG (fun H locs hG => ?_)
  refine lv_i2l (v := (r9 : Int32).toInt64) hx hb dX7_digest_27 rfl ?_
  refine lv_ladd hx hb dX7_digest_28 ?_
  refine lv_topl (fun x10 ex10 => ?_)
  have h := mlet_n h ex10
  refine lv_lstore_n (lv' := [(1, .long x10), (3, .int 1), (0, .ref (g a0))]) hx hb dX7_digest_29 rfl hl (by decide) rfl (fun ls hl => ?_)
  refine lv_iinc (v := 2) (lv' := [(3, .int 2), (1, .long x10), (0, .ref (g a0))]) hx hb dX7_digest_30 hl (k := 1) rfl (by decide) (by decide) rfl (fun ls hl => ?_)
  refine lv_goto (tgt := 11) hx hb dX7_digest_33 (by decide) ?_
  refine lv_iload_n hx hb dX7_digest_11 rfl (lv_at hl 0 rfl) ?_
  refine lv_bipush (v := 7) hx hb dX7_digest_12 (by decide) ?_
  refine lv_icmp_gt (tgt := 36) hx hb dX7_digest_14 (by decide) (fun c11 => absurd c11 (by decide)) (fun _ => ?_)
  refine lv_lload_n hx hb dX7_digest_17 rfl (lv_at hl 1 rfl) ?_
  refine lv_ldc2 (v := 31) hx hb F.2.2.2.1 (kw918 F.kd) dX7_digest_18 ?_
  refine lv_lmul hx hb dX7_digest_21 ?_
  refine lv_aload_n hx hb dX7_digest_22 rfl (lv_at hl 2 rfl) ?_
  refine lv_iload_n hx hb dX7_digest_23 rfl (lv_at hl 0 rfl) ?_
  obtain ⟨r13, hc12, h⟩ := cb1_e h
  refine k_i (r_runV F hG (c_X7_counted l D ca g ha0 hc12) (kd_lt ha0 (by decide)) (gd7 ha0) rfl (kw808 F.kd) (kw810 F.kd) (ks_X7_counted F.kd) (kw7 F.kd) (kw811 F.kd) yd_X7_counted ⟨Nat.le_of_ble_eq_true rfl, Nat.le_of_ble_eq_true rfl⟩ rfl hl.1 rfl (Nat.le_of_ble_eq_true rfl) dX7_digest_24 ⟨Nat.le_of_ble_eq_true rfl, Nat.le_of_ble_eq_true rfl⟩) hG (fun H locs hG => ?_)
  refine lv_i2l (v := (r13 : Int32).toInt64) hx hb dX7_digest_27 rfl ?_
  refine lv_ladd hx hb dX7_digest_28 ?_
  refine lv_topl (fun x14 ex14 => ?_)
  have h := mlet_n h ex14
  refine lv_lstore_n (lv' := [(1, .long x14), (3, .int 2), (0, .ref (g a0))]) hx hb dX7_digest_29 rfl hl (by decide) rfl (fun ls hl => ?_)
  refine lv_iinc (v := 3) (lv' := [(3, .int 3), (1, .long x14), (0, .ref (g a0))]) hx hb dX7_digest_30 hl (k := 1) rfl (by decide) (by decide) rfl (fun ls hl => ?_)
  refine lv_goto (tgt := 11) hx hb dX7_digest_33 (by decide) ?_
  refine lv_iload_n hx hb dX7_digest_11 rfl (lv_at hl 0 rfl) ?_
  refine lv_bipush (v := 7) hx hb dX7_digest_12 (by decide) ?_
  refine lv_icmp_gt (tgt := 36) hx hb dX7_digest_14 (by decide) (fun c15 => absurd c15 (by decide)) (fun _ => ?_)
  refine lv_lload_n hx hb dX7_digest_17 rfl (lv_at hl 1 rfl) ?_
  refine lv_ldc2 (v := 31) hx hb F.2.2.2.1 (kw918 F.kd) dX7_digest_18 ?_
  refine lv_lmul hx hb dX7_digest_21 ?_
  refine lv_aload_n hx hb dX7_digest_22 rfl (lv_at hl 2 rfl) ?_
  refine lv_iload_n hx hb dX7_digest_23 rfl (lv_at hl 0 rfl) ?_
  obtain ⟨r17, hc16, h⟩ := cb1_e h
  refine k_i (r_runV F hG (c_X7_counted l D ca g ha0 hc16) (kd_lt ha0 (by decide)) (gd7 ha0) rfl (kw808 F.kd) (kw810 F.kd) (ks_X7_counted F.kd) (kw7 F.kd) (kw811 F.kd) yd_X7_counted ⟨Nat.le_of_ble_eq_true rfl, Nat.le_of_ble_eq_true rfl⟩ rfl hl.1 rfl (Nat.le_of_ble_eq_true rfl) dX7_digest_24 ⟨Nat.le_of_ble_eq_true rfl, Nat.le_of_ble_eq_true rfl⟩) hG (fun H locs hG => ?_)
  refine lv_i2l (v := (r17 : Int32).toInt64) hx hb dX7_digest_27 rfl ?_
  refine lv_ladd hx hb dX7_digest_28 ?_
  refine lv_topl (fun x18 ex18 => ?_)
  have h := mlet_n h ex18
  refine lv_lstore_n (lv' := [(1, .long x18), (3, .int 3), (0, .ref (g a0))]) hx hb dX7_digest_29 rfl hl (by decide) rfl (fun ls hl => ?_)
  refine lv_iinc (v := 4) (lv' := [(3, .int 4), (1, .long x18), (0, .ref (g a0))]) hx hb dX7_digest_30 hl (k := 1) rfl (by decide) (by decide) rfl (fun ls hl => ?_)
  refine lv_goto (tgt := 11) hx hb dX7_digest_33 (by decide) ?_
  refine lv_iload_n hx hb dX7_digest_11 rfl (lv_at hl 0 rfl) ?_
  refine lv_bipush (v := 7) hx hb dX7_digest_12 (by decide) ?_
  refine lv_icmp_gt (tgt := 36) hx hb dX7_digest_14 (by decide) (fun c19 => absurd c19 (by decide)) (fun _ => ?_)
  refine lv_lload_n hx hb dX7_digest_17 rfl (lv_at hl 1 rfl) ?_
  refine lv_ldc2 (v := 31) hx hb F.2.2.2.1 (kw918 F.kd) dX7_digest_18 ?_
  refine lv_lmul hx hb dX7_digest_21 ?_
  refine lv_aload_n hx hb dX7_digest_22 rfl (lv_at hl 2 rfl) ?_
  refine lv_iload_n hx hb dX7_digest_23 rfl (lv_at hl 0 rfl) ?_
  obtain ⟨r21, hc20, h⟩ := cb1_e h
  refine k_i (r_runV F hG (c_X7_counted l D ca g ha0 hc20) (kd_lt ha0 (by decide)) (gd7 ha0) rfl (kw808 F.kd) (kw810 F.kd) (ks_X7_counted F.kd) (kw7 F.kd) (kw811 F.kd) yd_X7_counted ⟨Nat.le_of_ble_eq_true rfl, Nat.le_of_ble_eq_true rfl⟩ rfl hl.1 rfl (Nat.le_of_ble_eq_true rfl) dX7_digest_24 ⟨Nat.le_of_ble_eq_true rfl, Nat.le_of_ble_eq_true rfl⟩) hG (fun H locs hG => ?_)
  refine lv_i2l (v := (r21 : Int32).toInt64) hx hb dX7_digest_27 rfl ?_
  refine lv_ladd hx hb dX7_digest_28 ?_
  refine lv_topl (fun x22 ex22 => ?_)
  have h := mlet_n h ex22
  refine lv_lstore_n (lv' := [(1, .long x22), (3, .int 4), (0, .ref (g a0))]) hx hb dX7_digest_29 rfl hl (by decide) rfl (fun ls hl => ?_)
  refine lv_iinc (v := 5) (lv' := [(3, .int 5), (1, .long x22), (0, .ref (g a0))]) hx hb dX7_digest_30 hl (k := 1) rfl (by decide) (by decide) rfl (fun ls hl => ?_)
  refine lv_goto (tgt := 11) hx hb dX7_digest_33 (by decide) ?_
  refine lv_iload_n hx hb dX7_digest_11 rfl (lv_at hl 0 rfl) ?_
  refine lv_bipush (v := 7) hx hb dX7_digest_12 (by decide) ?_
  refine lv_icmp_gt (tgt := 36) hx hb dX7_digest_14 (by decide) (fun c23 => absurd c23 (by decide)) (fun _ => ?_)
  refine lv_lload_n hx hb dX7_digest_17 rfl (lv_at hl 1 rfl) ?_
  refine lv_ldc2 (v := 31) hx hb F.2.2.2.1 (kw918 F.kd) dX7_digest_18 ?_
  refine lv_lmul hx hb dX7_digest_21 ?_
  refine lv_aload_n hx hb dX7_digest_22 rfl (lv_at hl 2 rfl) ?_
  refine lv_iload_n hx hb dX7_digest_23 rfl (lv_at hl 0 rfl) ?_
  obtain ⟨r25, hc24, h⟩ := cb1_e h
  refine k_i (r_runV F hG (c_X7_counted l D ca g ha0 hc24) (kd_lt ha0 (by decide)) (gd7 ha0) rfl (kw808 F.kd) (kw810 F.kd) (ks_X7_counted F.kd) (kw7 F.kd) (kw811 F.kd) yd_X7_counted ⟨Nat.le_of_ble_eq_true rfl, Nat.le_of_ble_eq_true rfl⟩ rfl hl.1 rfl (Nat.le_of_ble_eq_true rfl) dX7_digest_24 ⟨Nat.le_of_ble_eq_true rfl, Nat.le_of_ble_eq_true rfl⟩) hG (fun H locs hG => ?_)
  refine lv_i2l (v := (r25 : Int32).toInt64) hx hb dX7_digest_27 rfl ?_
  refine lv_ladd hx hb dX7_digest_28 ?_
  refine lv_topl (fun x26 ex26 => ?_)
  have h := mlet_n h ex26
  refine lv_lstore_n (lv' := [(1, .long x26), (3, .int 5), (0, .ref (g a0))]) hx hb dX7_digest_29 rfl hl (by decide) rfl (fun ls hl => ?_)
  refine lv_iinc (v := 6) (lv' := [(3, .int 6), (1, .long x26), (0, .ref (g a0))]) hx hb dX7_digest_30 hl (k := 1) rfl (by decide) (by decide) rfl (fun ls hl => ?_)
  refine lv_goto (tgt := 11) hx hb dX7_digest_33 (by decide) ?_
  refine lv_iload_n hx hb dX7_digest_11 rfl (lv_at hl 0 rfl) ?_
  refine lv_bipush (v := 7) hx hb dX7_digest_12 (by decide) ?_
  refine lv_icmp_gt (tgt := 36) hx hb dX7_digest_14 (by decide) (fun c27 => absurd c27 (by decide)) (fun _ => ?_)
  refine lv_lload_n hx hb dX7_digest_17 rfl (lv_at hl 1 rfl) ?_
  refine lv_ldc2 (v := 31) hx hb F.2.2.2.1 (kw918 F.kd) dX7_digest_18 ?_
  refine lv_lmul hx hb dX7_digest_21 ?_
  refine lv_aload_n hx hb dX7_digest_22 rfl (lv_at hl 2 rfl) ?_
  refine lv_iload_n hx hb dX7_digest_23 rfl (lv_at hl 0 rfl) ?_
  obtain ⟨r29, hc28, h⟩ := cb1_e h
  refine k_i (r_runV F hG (c_X7_counted l D ca g ha0 hc28) (kd_lt ha0 (by decide)) (gd7 ha0) rfl (kw808 F.kd) (kw810 F.kd) (ks_X7_counted F.kd) (kw7 F.kd) (kw811 F.kd) yd_X7_counted ⟨Nat.le_of_ble_eq_true rfl, Nat.le_of_ble_eq_true rfl⟩ rfl hl.1 rfl (Nat.le_of_ble_eq_true rfl) dX7_digest_24 ⟨Nat.le_of_ble_eq_true rfl, Nat.le_of_ble_eq_true rfl⟩) hG (fun H locs hG => ?_)
  refine lv_i2l (v := (r29 : Int32).toInt64) hx hb dX7_digest_27 rfl ?_
  refine lv_ladd hx hb dX7_digest_28 ?_
  refine lv_topl (fun x30 ex30 => ?_)
  have h := mlet_n h ex30
  refine lv_lstore_n (lv' := [(1, .long x30), (3, .int 6), (0, .ref (g a0))]) hx hb dX7_digest_29 rfl hl (by decide) rfl (fun ls hl => ?_)
  refine lv_iinc (v := 7) (lv' := [(3, .int 7), (1, .long x30), (0, .ref (g a0))]) hx hb dX7_digest_30 hl (k := 1) rfl (by decide) (by decide) rfl (fun ls hl => ?_)
  refine lv_goto (tgt := 11) hx hb dX7_digest_33 (by decide) ?_
  refine lv_iload_n hx hb dX7_digest_11 rfl (lv_at hl 0 rfl) ?_
  refine lv_bipush (v := 7) hx hb dX7_digest_12 (by decide) ?_
  refine lv_icmp_gt (tgt := 36) hx hb dX7_digest_14 (by decide) (fun c31 => absurd c31 (by decide)) (fun _ => ?_)
  refine lv_lload_n hx hb dX7_digest_17 rfl (lv_at hl 1 rfl) ?_
  refine lv_ldc2 (v := 31) hx hb F.2.2.2.1 (kw918 F.kd) dX7_digest_18 ?_
  refine lv_lmul hx hb dX7_digest_21 ?_
  refine lv_aload_n hx hb dX7_digest_22 rfl (lv_at hl 2 rfl) ?_
  refine lv_iload_n hx hb dX7_digest_23 rfl (lv_at hl 0 rfl) ?_
  obtain ⟨r33, hc32, h⟩ := cb1_e h
  refine k_i (r_runV F hG (c_X7_counted l D ca g ha0 hc32) (kd_lt ha0 (by decide)) (gd7 ha0) rfl (kw808 F.kd) (kw810 F.kd) (ks_X7_counted F.kd) (kw7 F.kd) (kw811 F.kd) yd_X7_counted ⟨Nat.le_of_ble_eq_true rfl, Nat.le_of_ble_eq_true rfl⟩ rfl hl.1 rfl (Nat.le_of_ble_eq_true rfl) dX7_digest_24 ⟨Nat.le_of_ble_eq_true rfl, Nat.le_of_ble_eq_true rfl⟩) hG (fun H locs hG => ?_)
  refine lv_i2l (v := (r33 : Int32).toInt64) hx hb dX7_digest_27 rfl ?_
  refine lv_ladd hx hb dX7_digest_28 ?_
  refine lv_topl (fun x34 ex34 => ?_)
  have h := mlet_n h ex34
  refine lv_lstore_n (lv' := [(1, .long x34), (3, .int 7), (0, .ref (g a0))]) hx hb dX7_digest_29 rfl hl (by decide) rfl (fun ls hl => ?_)
  refine lv_iinc (v := 8) (lv' := [(3, .int 8), (1, .long x34), (0, .ref (g a0))]) hx hb dX7_digest_30 hl (k := 1) rfl (by decide) (by decide) rfl (fun ls hl => ?_)
  refine lv_goto (tgt := 11) hx hb dX7_digest_33 (by decide) ?_
  refine lv_iload_n hx hb dX7_digest_11 rfl (lv_at hl 0 rfl) ?_
  refine lv_bipush (v := 7) hx hb dX7_digest_12 (by decide) ?_
  refine lv_icmp_gt (tgt := 36) hx hb dX7_digest_14 (by decide) (fun _ => ?_) (fun c35 => absurd c35 (by decide))
  refine lv_iconst (v := 0) hx hb dX7_digest_36 (by decide) ?_
  refine lv_istore_n (lv' := [(3, .int 0), (1, .long x34), (0, .ref (g a0))]) hx hb dX7_digest_37 rfl hl (by decide) rfl (fun ls hl => ?_)
  obtain ⟨o42, ho43, h⟩ := cb1_e h
  refine m_X7_digest_L38_w (out := o42) F ha0 ?_ _ _ _ ho43 _ _ _ hG (lv_sub hl [2, 1, 0] rfl)
  · intro x44 H locs ls eo hG hl
    subst o42
    refine lv_iconst (v := 0) hx hb dX7_digest_67 (by decide) ?_
    refine lv_istore_n (lv' := [(3, .int 0), (0, .ref (g a0)), (1, .long x44)]) hx hb dX7_digest_68 rfl hl (by decide) rfl (fun ls hl => ?_)
    obtain ⟨o67, ho68, h⟩ := cb1_e h
    refine m_X7_digest_L69_w (out := o67) F ha0 ?_ _ _ _ ho68 _ _ _ hG (lv_sub hl [1, 2, 0] rfl)
    · intro x69 H locs ls eo hG hl
      subst o67
      refine lv_iconst (v := 0) hx hb dX7_digest_160 (by decide) ?_
      refine lv_istore_n (lv' := [(3, .int 0), (0, .ref (g a0)), (1, .long x69)]) hx hb dX7_digest_161 rfl hl (by decide) rfl (fun ls hl => ?_)
      obtain ⟨o80, ho81, h⟩ := cb1_e h
      refine m_X7_digest_L162_w (out := o80) F ha0 ?_ _ _ _ ho81 _ _ _ hG (lv_sub hl [1, 2, 0] rfl)
      · intro x82 H locs ls eo hG hl
        subst o80
        refine lv_lload_n hx hb dX7_digest_206 rfl (lv_at hl 0 rfl) ?_
        obtain ⟨rfl, rfl⟩ := som2 h
        exact W.widen (k := 8) (n := 64) (Nat.le_of_ble_eq_true rfl) (Nat.le_of_ble_eq_true rfl) (end_l F hr hlk hG dX7_digest_207)

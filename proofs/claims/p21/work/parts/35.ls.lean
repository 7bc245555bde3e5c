set_option maxHeartbeats 4000000 in
set_option maxRecDepth 100000 in
theorem m_S0_L7_w {p : Program} {l : Launch} {e : Env} {s : State} {m : MethodId} {args : Array Value} {below : List Frame} {meth : Method} {c : Code} {Q : State → Prop} {D : va_G} {ca : vCA} {g : Nat → Nat} {fu : Nat} {cA cB : ClassId} {nc np aW aP aC ue uf : Nat} {X : Mem} {out : Mem × Int32} (F : FX p m c cL_law 31 s D ca g RL) (hst : l.stackTraces = false) (hnc : nc ≤ 6) (hnp : np ≤ 3) (hE : ue + 16 ≤ 600104) (hF : uf + 96 ≤ 7301313)
    (K : ∀ (M1 : Mem) (u2 : Int32) (H : Heap) (locs : List Loc) (ls : Array Slot), out = (M1, u2) → GL D ca g s 0 cA cB nc np aW aP aC M1 X H locs → lv_has ls 31 [(0, .ref (ca.2.2.2.1)), (1, .ref (g 40)), (2, .int u2)] → W p l e (room_1) s m args below meth c H locs (ue + 16) (uf + 96) Q (F0 m 27 ls [])) :
    ∀ (n : Nat), n ≤ 8 → ∀ (M : Mem) (z2 : Int32), m_S0_L7 fu (scr ca) nc np X n M z2 = some out → ∀ (H : Heap) (locs : List Loc) (ls : Array Slot), GL D ca g s 0 cA cB nc np aW aP aC M X H locs → lv_has ls 31 [(0, .ref (ca.2.2.2.1)), (1, .ref (g 40)), (2, .int z2)] → W p l e (room_1) s m args below meth c H locs (ue + (8 - n) * 2) (uf + (8 - n) * 12) Q (F0 m 7 ls []) := by
  have hx := F.1
  have hb := F.2.1
  intro n
  induction n with
  | zero =>
    intro hn M z2 h
    exact absurd h (by simp [m_S0_L7])
  | succ n ih =>
    intro hn M z2 h H locs ls hG hl
    obtain ⟨xe, hxe⟩ : ∃ xe, xe = ue + (8 - (n + 1)) * 2 := ⟨_, rfl⟩
    obtain ⟨xf, hxf⟩ : ∃ xf, xf = uf + (8 - (n + 1)) * 12 := ⟨_, rfl⟩
    rw [← hxe, ← hxf]
    rw [m_S0_L7] at h
    refine lv_iload_n hx hb dL_law_7 rfl (lv_at hl 2 rfl) ?_
    refine lv_bipush (v := 6) hx hb dL_law_8 (by decide) ?_
    refine lv_icmp_ge (tgt := 27) hx hb dL_law_10 (by decide) (fun c1 => ?_) (fun c1 => ?_)
    · have h := ite_t h c1
      refine W.widen (k := ue + 16) (n := uf + 96) (by omega) (by omega) ?_
      exact K _ _ _ _ _ (som1 h).symm hG (lv_sub hl [0, 1, 2] rfl)
    · have h := ite_f h c1
      refine lv_aload_n hx hb dL_law_13 rfl (lv_at hl 1 rfl) ?_
      refine lv_iload_n hx hb dL_law_14 rfl (lv_at hl 2 rfl) ?_
      obtain ⟨M4, r3, hc2, h⟩ := cb2_e h
      refine y_i (a := 2) (b := 12) (l_runSH F hG.1 (c_L_isThere l D ca g hst (show kd 40 = 5 from rfl) hc2) (kw588 F.kd) (kw589 F.kd) (kw0 F.kd) (kw590 F.kd) yd_L_isThere ⟨Nat.le_of_ble_eq_true rfl, Nat.le_of_ble_eq_true rfl⟩ rfl hl.1 rfl (Nat.le_of_ble_eq_true rfl) dL_law_15 ⟨(show xe + 2 ≤ 600104 by omega), (show xf + 12 ≤ 7301313 by omega)⟩) rfl rfl hG (fun ne5 nf6 H locs hne5 hnf6 hG => ?_)
      refine lv_if_eq (tgt := 27) hx hb dL_law_18 (by decide) (fun c7 => ?_) (fun c7 => ?_)
      · have h := ite_t h c7
        refine W.widen (k := ue + 16) (n := uf + 96) (by omega) (by omega) ?_
        exact K _ _ _ _ _ (som1 h).symm hG (lv_sub hl [0, 1, 2] rfl)
      · have h := ite_f h c7
        obtain ⟨x8, ex8, h⟩ := mlet_e h
        refine lv_iinc (v := x8) (lv' := [(2, .int x8), (0, .ref (ca.2.2.2.1)), (1, .ref (g 40))]) hx hb dL_law_21 hl (k := 2) rfl (by rw [ex8]; rfl) (by decide) rfl (fun ls hl => ?_)
        refine lv_goto (tgt := 7) hx hb dL_law_24 (by decide) ?_
        refine W.widen (k := ue + (8 - n) * 2) (n := uf + (8 - n) * 12) (by omega) (by omega) ?_
        exact ih (by omega) M4 x8 h _ _ _ hG (lv_sub hl [1, 2, 0] rfl)
set_option maxHeartbeats 8000000 in
set_option maxRecDepth 100000 in
theorem w_S0 {p : Program} {l : Launch} {e : Env} {s : State} {m : MethodId} {args : Array Value} {below : List Frame} {meth : Method} {c : Code} {Q : State → Prop} {D : va_G} {ca : vCA} {g : Nat → Nat} {fu : Nat} {cA cB : ClassId} {nc np aW aP aC ue uf : Nat} {M X : Mem} {out : Mem × Int32 × Int32} (F : FX p m c cL_law 31 s D ca g RL) (hst : l.stackTraces = false) (hnc : nc ≤ 6) (hnp : np ≤ 3) (hE : ue + 16 ≤ 600104) (hF : uf + 96 ≤ 7301313) (h : m_S0 fu (scr ca) nc np M X = some out)
    (K : ∀ (M1 : Mem) (u2 : Int32) (u3 : Int32) (H : Heap) (locs : List Loc) (ls : Array Slot), out = (M1, u2, u3) → GL D ca g s 0 cA cB nc np aW aP aC M1 X H locs → lv_has ls 31 [(0, .ref (ca.2.2.2.1)), (1, .ref (g 40)), (2, .int u2), (3, .int u3)] → W p l e (room_1) s m args below meth c H locs (ue + 16) (uf + 96) Q (F0 m 34 ls [])) :
    ∀ (H : Heap) (locs : List Loc) (ls : Array Slot), GL D ca g s 0 cA cB nc np aW aP aC M X H locs → lv_has ls 31 [(0, .ref (ca.2.2.2.1)), (1, .ref (g 40))] → W p l e (room_1) s m args below meth c H locs ue uf Q (F0 m 5 ls []) := by
  have hx := F.1
  have hb := F.2.1
  intro H locs ls hG hl
  unfold m_S0 at h
  refine lv_iconst (v := 0) hx hb dL_law_5 (by decide) ?_
  refine lv_istore_n (lv' := [(2, .int 0), (0, .ref (ca.2.2.2.1)), (1, .ref (g 40))]) hx hb dL_law_6 rfl hl (by decide) rfl (fun ls hl => ?_)
  obtain ⟨o9, ho10, h⟩ := cb1_e h
  refine W.widen (k := ue + (8 - 8) * 2) (n := uf + (8 - 8) * 12) (by omega) (by omega) (m_S0_L7_w (out := o9) (ue := ue) (uf := uf) F hst hnc hnp (by omega) (by omega) ?_ _ (Nat.le_refl _) _ _ ho10 _ _ _ hG (lv_sub hl [1, 2, 0] rfl))
  · intro M11 x12 H locs ls eo hG hl
    subst o9
    have h := up2_e h
    obtain ⟨ne13, hne13⟩ : ∃ z, z = ue + 16 := ⟨_, rfl⟩
    obtain ⟨nf14, hnf14⟩ : ∃ z, z = uf + 96 := ⟨_, rfl⟩
    rw [← hne13, ← hnf14]
    refine lv_aload_n hx hb dL_law_27 rfl (lv_at hl 1 rfl) ?_
    refine lv_bipush (v := 6) hx hb dL_law_28 (by decide) ?_
    obtain ⟨r16, hc15, h⟩ := nbd_n h
    refine z_i (r_runV F hG.1 (n_X5_count l D ca g (show kd 40 = 5 from rfl) hc15) (kd_lt (show kd 40 = 5 from rfl) (by decide)) (gd5 (show kd 40 = 5 from rfl)) rfl (kw163 F.kd) (kw164 F.kd) (kw165 F.kd) (kw1 F.kd) (kw166 F.kd) yd_X5_count ⟨Nat.le_of_ble_eq_true rfl, Nat.le_of_ble_eq_true rfl⟩ rfl hl.1 rfl (Nat.le_of_ble_eq_true rfl) dL_law_30 ⟨(show ne13 ≤ 600104 by omega), (show nf14 ≤ 7301313 by omega)⟩) rfl rfl hG (fun H locs hG => ?_)
    refine lv_istore_n (lv' := [(3, .int r16), (0, .ref (ca.2.2.2.1)), (1, .ref (g 40)), (2, .int x12)]) hx hb dL_law_33 rfl hl (by decide) rfl (fun ls hl => ?_)
    refine W.widen (k := ue + 16) (n := uf + 96) (by omega) (by omega) ?_
    exact K _ _ _ _ _ _ (som1 h).symm hG (lv_sub hl [1, 2, 3, 0] rfl)
set_option maxHeartbeats 8000000 in
set_option maxRecDepth 100000 in
theorem w_S1 {p : Program} {l : Launch} {e : Env} {s : State} {m : MethodId} {args : Array Value} {below : List Frame} {meth : Method} {c : Code} {Q : State → Prop} {D : va_G} {ca : vCA} {g : Nat → Nat} {fu : Nat} {cA cB : ClassId} {nc np aW aP aC ue uf : Nat} {M X : Mem} {v2 : Int32} {v3 : Int32} {v4 : Int32} {out : Mem × Int32} (F : FX p m c cL_law 31 s D ca g RL) (hst : l.stackTraces = false) (hnc : nc ≤ 6) (hnp : np ≤ 3) (hE : ue + 2 ≤ 600104) (hF : uf + 12 ≤ 7301313) (h : m_S1 fu (scr ca) nc np M X v2 v3 v4 = some out)
    (K : ∀ (M1 : Mem) (u7 : Int32) (H : Heap) (locs : List Loc) (ls : Array Slot), out = (M1, u7) → GL D ca g s 0 cA cB nc np aW aP aC M1 X H locs → lv_has ls 31 [(0, .ref (ca.2.2.2.1)), (1, .ref (g 40)), (2, .int v2), (3, .int v3), (4, .int v4), (7, .int u7)] → W p l e (room_1) s m args below meth c H locs (ue + 2) (uf + 12) Q (F0 m 142 ls [])) :
    ∀ (H : Heap) (locs : List Loc) (ls : Array Slot), GL D ca g s 0 cA cB nc np aW aP aC M X H locs → lv_has ls 31 [(0, .ref (ca.2.2.2.1)), (1, .ref (g 40)), (2, .int v2), (3, .int v3), (4, .int v4)] → W p l e (room_1) s m args below meth c H locs ue uf Q (F0 m 44 ls []) := by
  have hx := F.1
  have hb := F.2.1
  intro H locs ls hG hl
  unfold m_S1 at h
  refine lv_aload_n hx hb dL_law_44 rfl (lv_at hl 0 rfl) ?_
  refine lv_iload hx hb dL_law_45 (lv_at hl 4 rfl) ?_
  refine lv_bipush (v := 16) hx hb dL_law_47 (by decide) ?_
  refine lv_irem hx hb dL_law_49 (by decide) ?_
  obtain ⟨r2, hc1, h⟩ := cb1_e h
  refine z_i (r_runS F hG.1 (c_L_cell l D ca g hc1) (kw385 F.kd) (kw386 F.kd) (kw0 F.kd) (kw387 F.kd) yd_L_cell ⟨Nat.le_of_ble_eq_true rfl, Nat.le_of_ble_eq_true rfl⟩ rfl hl.1 rfl (Nat.le_of_ble_eq_true rfl) dL_law_50 ⟨(show ue ≤ 600104 by omega), (show uf ≤ 7301313 by omega)⟩) rfl rfl hG (fun H locs hG => ?_)
  refine lv_iload hx hb dL_law_53 (lv_at hl 4 rfl) ?_
  refine lv_bipush (v := 16) hx hb dL_law_55 (by decide) ?_
  refine lv_idiv hx hb dL_law_57 (by decide) ?_
  refine lv_iconst (v := 5) hx hb dL_law_58 (by decide) ?_
  refine lv_imul hx hb dL_law_59 ?_
  refine lv_ishr hx hb dL_law_60 ?_
  refine lv_topi (fun x3 ex3 => ?_)
  have h := mlet_n h ex3
  refine lv_istore (lv' := [(5, .int x3), (0, .ref (ca.2.2.2.1)), (1, .ref (g 40)), (2, .int v2), (3, .int v3), (4, .int v4)]) hx hb dL_law_61 hl (by decide) rfl (fun ls hl => ?_)
  refine lv_iload hx hb dL_law_63 (lv_at hl 0 rfl) ?_
  refine lv_iconst (v := 4) hx hb dL_law_65 (by decide) ?_
  refine lv_ishr hx hb dL_law_66 ?_
  refine lv_bipush (v := 12) hx hb dL_law_67 (by decide) ?_
  obtain ⟨r5, hc4, h⟩ := cb1_e h
  refine z_i (r_runS F hG.1 (c_L_below l D ca g hc4) (kw381 F.kd) (kw382 F.kd) (kw0 F.kd) (kw383 F.kd) yd_L_below ⟨Nat.le_of_ble_eq_true rfl, Nat.le_of_ble_eq_true rfl⟩ rfl hl.1 rfl (Nat.le_of_ble_eq_true rfl) dL_law_69 ⟨(show ue ≤ 600104 by omega), (show uf ≤ 7301313 by omega)⟩) rfl rfl hG (fun H locs hG => ?_)
  refine lv_istore (lv' := [(6, .int r5), (5, .int x3), (0, .ref (ca.2.2.2.1)), (1, .ref (g 40)), (2, .int v2), (3, .int v3), (4, .int v4)]) hx hb dL_law_72 hl (by decide) rfl (fun ls hl => ?_)
  refine lv_iload hx hb dL_law_74 (lv_at hl 1 rfl) ?_
  refine lv_iconst (v := 2) hx hb dL_law_76 (by decide) ?_
  refine lv_ishr hx hb dL_law_77 ?_
  refine lv_bipush (v := 6) hx hb dL_law_78 (by decide) ?_
  obtain ⟨r7, hc6, h⟩ := cb1_e h
  refine z_i (r_runS F hG.1 (c_L_below l D ca g hc6) (kw381 F.kd) (kw382 F.kd) (kw0 F.kd) (kw383 F.kd) yd_L_below ⟨Nat.le_of_ble_eq_true rfl, Nat.le_of_ble_eq_true rfl⟩ rfl hl.1 rfl (Nat.le_of_ble_eq_true rfl) dL_law_80 ⟨(show ue ≤ 600104 by omega), (show uf ≤ 7301313 by omega)⟩) rfl rfl hG (fun H locs hG => ?_)
  refine lv_istore (lv' := [(7, .int r7), (6, .int r5), (5, .int x3), (0, .ref (ca.2.2.2.1)), (1, .ref (g 40)), (2, .int v2), (3, .int v3), (4, .int v4)]) hx hb dL_law_83 hl (by decide) rfl (fun ls hl => ?_)
  refine lv_iload hx hb dL_law_85 (lv_at hl 0 rfl) ?_
  refine lv_iload_n hx hb dL_law_87 rfl (lv_at hl 5 rfl) ?_
  refine lv_icmp_ge (tgt := 142) hx hb dL_law_88 (by decide) (fun c8 => ?_) (fun c8 => ?_)
  · have h := ite_t h c8
    refine W.widen (k := ue + 2) (n := uf + 12) (by omega) (by omega) ?_
    exact K _ _ _ _ _ (som1 h).symm hG (lv_sub hl [3, 4, 5, 6, 7, 0] rfl)
  · have h := ite_f h c8
    refine lv_aload_n hx hb dL_law_91 rfl (lv_at hl 4 rfl) ?_
    refine lv_iload hx hb dL_law_92 (lv_at hl 0 rfl) ?_
    refine lv_iconst (v := 4) hx hb dL_law_94 (by decide) ?_
    obtain ⟨r10, hc9, h⟩ := nbd_n h
    refine z_i (r_runV F hG.1 (n_X5_crowd l D ca g (show kd 40 = 5 from rfl) hc9) (kd_lt (show kd 40 = 5 from rfl) (by decide)) (gd5 (show kd 40 = 5 from rfl)) rfl (kw98 F.kd) (kw99 F.kd) (kw100 F.kd) (kw1 F.kd) (kw101 F.kd) yd_X5_crowd ⟨Nat.le_of_ble_eq_true rfl, Nat.le_of_ble_eq_true rfl⟩ rfl hl.1 rfl (Nat.le_of_ble_eq_true rfl) dL_law_95 ⟨(show ue ≤ 600104 by omega), (show uf ≤ 7301313 by omega)⟩) rfl rfl hG (fun H locs hG => ?_)
    refine lv_istore (lv' := [(8, .int r10), (7, .int r7), (6, .int r5), (5, .int x3), (0, .ref (ca.2.2.2.1)), (1, .ref (g 40)), (2, .int v2), (3, .int v3), (4, .int v4)]) hx hb dL_law_98 hl (by decide) rfl (fun ls hl => ?_)
    refine lv_aload_n hx hb dL_law_100 rfl (lv_at hl 5 rfl) ?_
    refine lv_iload hx hb dL_law_101 (lv_at hl 1 rfl) ?_
    refine lv_iload hx hb dL_law_103 (lv_at hl 2 rfl) ?_
    obtain ⟨M13, r12, hc11, h⟩ := cb2_e h
    refine y_i (a := 2) (b := 12) (l_runSH F hG.1 (c_L_order l D ca g hst (show kd 40 = 5 from rfl) hc11) (kw585 F.kd) (kw586 F.kd) (kw0 F.kd) (kw587 F.kd) yd_L_order ⟨Nat.le_of_ble_eq_true rfl, Nat.le_of_ble_eq_true rfl⟩ rfl hl.1 rfl (Nat.le_of_ble_eq_true rfl) dL_law_105 ⟨(show ue + 2 ≤ 600104 by omega), (show uf + 12 ≤ 7301313 by omega)⟩) rfl rfl hG (fun ne14 nf15 H locs hne14 hnf15 hG => ?_)
    refine lv_istore (lv' := [(9, .int r12), (8, .int r10), (7, .int r7), (6, .int r5), (5, .int x3), (0, .ref (ca.2.2.2.1)), (1, .ref (g 40)), (2, .int v2), (3, .int v3), (4, .int v4)]) hx hb dL_law_108 hl (by decide) rfl (fun ls hl => ?_)
    refine lv_iload hx hb dL_law_110 (lv_at hl 0 rfl) ?_
    refine lv_aload_n hx hb dL_law_112 rfl (lv_at hl 6 rfl) ?_
    refine lv_iload hx hb dL_law_113 (lv_at hl 2 rfl) ?_
    refine lv_iconst (v := 2) hx hb dL_law_115 (by decide) ?_
    obtain ⟨r17, hc16, h⟩ := nbd_n h
    refine z_i (r_runV F hG.1 (n_X5_crowd l D ca g (show kd 40 = 5 from rfl) hc16) (kd_lt (show kd 40 = 5 from rfl) (by decide)) (gd5 (show kd 40 = 5 from rfl)) rfl (kw98 F.kd) (kw99 F.kd) (kw100 F.kd) (kw1 F.kd) (kw101 F.kd) yd_X5_crowd ⟨Nat.le_of_ble_eq_true rfl, Nat.le_of_ble_eq_true rfl⟩ rfl hl.1 rfl (Nat.le_of_ble_eq_true rfl) dL_law_116 ⟨(show ne14 ≤ 600104 by omega), (show nf15 ≤ 7301313 by omega)⟩) rfl rfl hG (fun H locs hG => ?_)
    obtain ⟨o18, ho19, h⟩ := cb1_e h
    have J20 : ∀ (H : Heap) (locs : List Loc) (ls : Array Slot), GL D ca g s 0 cA cB nc np aW aP aC M13 X H locs → lv_has ls 31 [(9, .int r12), (8, .int r10), (7, .int r7), (6, .int r5), (5, .int x3), (0, .ref (ca.2.2.2.1)), (1, .ref (g 40)), (2, .int v2), (3, .int v3), (4, .int v4)] → W p l e (room_1) s m args below meth c H locs ne14 nf15 Q (F0 m 137 ls [.int o18, .int r12]) := by
      intro H locs ls hG hl
      refine lv_icmp_eq (tgt := 142) hx hb dL_law_137 (by decide) (fun c23 => ?_) (fun c23 => ?_)
      · have h := ite_t h c23
        refine W.widen (k := ue + 2) (n := uf + 12) (by omega) (by omega) ?_
        exact K _ _ _ _ _ (som1 h).symm hG (lv_sub hl [5, 6, 7, 8, 9, 2] rfl)
      · have h := ite_f h c23
        cases h
    replace h := ho19
    refine lv_if_le (tgt := 136) hx hb dL_law_119 (by decide) (fun c21 => ?_) (fun c21 => ?_)
    · have h := ite_t h c21
      refine lv_iconst (v := (-1)) hx hb dL_law_136 (by decide) ?_
      obtain rfl := som1 h
      exact J20 H locs ls hG hl
    · have h := ite_f h c21
      refine lv_iload hx hb dL_law_122 (lv_at hl 1 rfl) ?_
      refine lv_bipush (v := 24) hx hb dL_law_124 (by decide) ?_
      refine lv_icmp_ge (tgt := 136) hx hb dL_law_126 (by decide) (fun c22 => ?_) (fun c22 => ?_)
      · have h := ite_t h c22
        refine lv_iconst (v := (-1)) hx hb dL_law_136 (by decide) ?_
        obtain rfl := som1 h
        exact J20 H locs ls hG hl
      · have h := ite_f h c22
        refine lv_iload hx hb dL_law_129 (lv_at hl 1 rfl) ?_
        refine lv_iconst (v := 1) hx hb dL_law_131 (by decide) ?_
        refine lv_iadd hx hb dL_law_132 ?_
        refine lv_goto (tgt := 137) hx hb dL_law_133 (by decide) ?_
        obtain rfl := som1 h
        exact J20 H locs ls hG hl
set_option maxHeartbeats 4000000 in
set_option maxRecDepth 100000 in
theorem m_S2_L163_w {p : Program} {l : Launch} {e : Env} {s : State} {m : MethodId} {args : Array Value} {below : List Frame} {meth : Method} {c : Code} {Q : State → Prop} {D : va_G} {ca : vCA} {g : Nat → Nat} {fu : Nat} {cA cB : ClassId} {nc np aW aP aC ue uf : Nat} {M : Mem} {y2 : Int32} {y3 : Int32} {y4 : Int32} {y7 : Int32} {y9 : Int32} {out : Mem} (F : FX p m c cL_law 31 s D ca g RL) (hst : l.stackTraces = false) (hA1 : ArrOfT s cA (.array .int)) (hA2 : ArrOfT s cB (.array .int)) (hnc : nc ≤ 6) (hnp : np ≤ 3) (hE : ue + 0 ≤ 600104) (hF : uf + 0 ≤ 7301313)
    (K : ∀ (X1 : Mem) (H : Heap) (locs : List Loc) (ls : Array Slot), out = X1 → GL D ca g s 1 cA cB nc np aW aP aC M X1 H locs → lv_has ls 31 [(0, .ref (ca.2.2.2.1)), (1, .ref (g 40)), (2, .int y2), (3, .int y3), (4, .int y4), (7, .int y7), (8, .ref aW), (9, .int y9)] → W p l e (room_1) s m args below meth c H locs ue uf Q (F0 m 192 ls [])) :
    ∀ (n : Nat) (X : Mem) (z10 : Int32), m_S2_L163 fu (scr ca) nc np M y2 y3 y4 y7 y9 n X z10 = some out → ∀ (H : Heap) (locs : List Loc) (ls : Array Slot), GL D ca g s 1 cA cB nc np aW aP aC M X H locs → lv_has ls 31 [(0, .ref (ca.2.2.2.1)), (1, .ref (g 40)), (2, .int y2), (3, .int y3), (4, .int y4), (7, .int y7), (8, .ref aW), (9, .int y9), (10, .int z10)] → W p l e (room_1) s m args below meth c H locs ue uf Q (F0 m 163 ls []) := by
  have hx := F.1
  have hb := F.2.1
  intro n
  induction n with
  | zero =>
    intro X z10 h
    exact absurd h (by simp [m_S2_L163])
  | succ n ih =>
    intro X z10 h H locs ls hG hl
    rw [m_S2_L163] at h
    refine lv_iload hx hb dL_law_163 (lv_at hl 8 rfl) ?_
    refine lv_bipush (v := 8) hx hb dL_law_165 (by decide) ?_
    refine lv_icmp_ge (tgt := 192) hx hb dL_law_167 (by decide) (fun c2 => ?_) (fun c2 => ?_)
    · have h := ite_t h c2
      exact K _ _ _ _ (som1 h).symm hG (lv_sub hl [0, 1, 2, 3, 4, 5, 6, 7] rfl)
    · have h := ite_f h c2
      refine lv_aload hx hb dL_law_170 (lv_at hl 6 rfl) ?_
      refine lv_iload hx hb dL_law_172 (lv_at hl 7 rfl) ?_
      obtain ⟨hi3, h⟩ := chk_e h
      refine lx_aW F hA1 (by decide) hG hi3 dL_law_174 ?_
      refine lv_iload hx hb dL_law_175 (lv_at hl 8 rfl) ?_
      refine lv_aload_n hx hb dL_law_177 rfl (lv_at hl 1 rfl) ?_
      refine lv_iload hx hb dL_law_178 (lv_at hl 7 rfl) ?_
      refine lv_iload hx hb dL_law_180 (lv_at hl 8 rfl) ?_
      obtain ⟨r5, hc4, h⟩ := nbd_n h
      refine z_i (r_runV F hG.1 (n_X5_crowd l D ca g (show kd 40 = 5 from rfl) hc4) (kd_lt (show kd 40 = 5 from rfl) (by decide)) (gd5 (show kd 40 = 5 from rfl)) rfl (kw98 F.kd) (kw99 F.kd) (kw100 F.kd) (kw1 F.kd) (kw101 F.kd) yd_X5_crowd ⟨Nat.le_of_ble_eq_true rfl, Nat.le_of_ble_eq_true rfl⟩ rfl hl.1 rfl (Nat.le_of_ble_eq_true rfl) dL_law_182 ⟨(show ue ≤ 600104 by omega), (show uf ≤ 7301313 by omega)⟩) rfl rfl hG (fun H locs hG => ?_)
      obtain ⟨hi6, h⟩ := chk_e h
      obtain ⟨X7, eX7, h⟩ := mlet_e h
      refine lx_sW F hG hi3 hi6 eX7 dL_law_185 (fun H locs hG => ?_)
      obtain ⟨x8, ex8, h⟩ := mlet_e h
      refine lv_iinc (v := x8) (lv' := [(10, .int x8), (0, .ref (ca.2.2.2.1)), (1, .ref (g 40)), (2, .int y2), (3, .int y3), (4, .int y4), (7, .int y7), (8, .ref aW), (9, .int y9)]) hx hb dL_law_186 hl (k := 8) rfl (by rw [ex8]; rfl) (by decide) rfl (fun ls hl => ?_)
      refine lv_goto (tgt := 163) hx hb dL_law_189 (by decide) ?_
      exact ih X7 x8 h _ _ _ hG (lv_sub hl [1, 2, 3, 4, 5, 6, 7, 8, 0] rfl)
set_option maxHeartbeats 4000000 in
set_option maxRecDepth 100000 in
theorem m_S2_L154_w {p : Program} {l : Launch} {e : Env} {s : State} {m : MethodId} {args : Array Value} {below : List Frame} {meth : Method} {c : Code} {Q : State → Prop} {D : va_G} {ca : vCA} {g : Nat → Nat} {fu : Nat} {cA cB : ClassId} {nc np aW aP aC ue uf : Nat} {M : Mem} {y2 : Int32} {y3 : Int32} {y4 : Int32} {y7 : Int32} {out : Mem} (F : FX p m c cL_law 31 s D ca g RL) (hst : l.stackTraces = false) (hA1 : ArrOfT s cA (.array .int)) (hA2 : ArrOfT s cB (.array .int)) (hnc : nc ≤ 6) (hnp : np ≤ 3) (hE : ue + 0 ≤ 600104) (hF : uf + 0 ≤ 7301313)
    (K : ∀ (X1 : Mem) (H : Heap) (locs : List Loc) (ls : Array Slot), out = X1 → GL D ca g s 1 cA cB nc np aW aP aC M X1 H locs → lv_has ls 31 [(0, .ref (ca.2.2.2.1)), (1, .ref (g 40)), (2, .int y2), (3, .int y3), (4, .int y4), (7, .int y7), (8, .ref aW)] → W p l e (room_1) s m args below meth c H locs ue uf Q (F0 m 198 ls [])) :
    ∀ (n : Nat) (X : Mem) (z9 : Int32), m_S2_L154 fu (scr ca) nc np M y2 y3 y4 y7 n X z9 = some out → ∀ (H : Heap) (locs : List Loc) (ls : Array Slot), GL D ca g s 1 cA cB nc np aW aP aC M X H locs → lv_has ls 31 [(0, .ref (ca.2.2.2.1)), (1, .ref (g 40)), (2, .int y2), (3, .int y3), (4, .int y4), (7, .int y7), (8, .ref aW), (9, .int z9)] → W p l e (room_1) s m args below meth c H locs ue uf Q (F0 m 154 ls []) := by
  have hx := F.1
  have hb := F.2.1
  intro n
  induction n with
  | zero =>
    intro X z9 h
    exact absurd h (by simp [m_S2_L154])
  | succ n ih =>
    intro X z9 h H locs ls hG hl
    rw [m_S2_L154] at h
    refine lv_iload hx hb dL_law_154 (lv_at hl 7 rfl) ?_
    refine lv_iload_n hx hb dL_law_156 rfl (lv_at hl 2 rfl) ?_
    refine lv_icmp_ge (tgt := 198) hx hb dL_law_157 (by decide) (fun c1 => ?_) (fun c1 => ?_)
    · have h := ite_t h c1
      exact K _ _ _ _ (som1 h).symm hG (lv_sub hl [0, 1, 2, 3, 4, 5, 6] rfl)
    · have h := ite_f h c1
      refine lv_iconst (v := 0) hx hb dL_law_160 (by decide) ?_
      refine lv_istore (lv' := [(10, .int 0), (0, .ref (ca.2.2.2.1)), (1, .ref (g 40)), (2, .int y2), (3, .int y3), (4, .int y4), (7, .int y7), (8, .ref aW), (9, .int z9)]) hx hb dL_law_161 hl (by decide) rfl (fun ls hl => ?_)
      obtain ⟨o9, ho10, h⟩ := cb1_e h
      refine m_S2_L163_w (out := o9) (ue := ue) (uf := uf) F hst hA1 hA2 hnc hnp (by omega) (by omega) ?_ _ _ _ ho10 _ _ _ hG (lv_sub hl [1, 2, 3, 4, 5, 6, 7, 8, 0] rfl)
      · intro X11 H locs ls eo hG hl
        subst o9
        obtain ⟨x12, ex12, h⟩ := mlet_e h
        refine lv_iinc (v := x12) (lv' := [(9, .int x12), (0, .ref (ca.2.2.2.1)), (1, .ref (g 40)), (2, .int y2), (3, .int y3), (4, .int y4), (7, .int y7), (8, .ref aW)]) hx hb dL_law_192 hl (k := 7) rfl (by rw [ex12]; rfl) (by decide) rfl (fun ls hl => ?_)
        refine lv_goto (tgt := 154) hx hb dL_law_195 (by decide) ?_
        exact ih X11 x12 h _ _ _ hG (lv_sub hl [1, 2, 3, 4, 5, 6, 7, 0] rfl)
set_option maxHeartbeats 8000000 in
set_option maxRecDepth 100000 in
theorem w_S2 {p : Program} {l : Launch} {e : Env} {s : State} {m : MethodId} {args : Array Value} {below : List Frame} {meth : Method} {c : Code} {Q : State → Prop} {D : va_G} {ca : vCA} {g : Nat → Nat} {fu : Nat} {cA cB : ClassId} {nc np aW aP aC ue uf : Nat} {M X : Mem} {v2 : Int32} {v3 : Int32} {v4 : Int32} {v7 : Int32} {out : Mem} (F : FX p m c cL_law 31 s D ca g RL) (hst : l.stackTraces = false) (hA1 : ArrOfT s cA (.array .int)) (hA2 : ArrOfT s cB (.array .int)) (hnc : nc ≤ 6) (hnp : np ≤ 3) (hE : ue + 0 ≤ 600104) (hF : uf + 0 ≤ 7301313) (h : m_S2 fu (scr ca) nc np M X v2 v3 v4 v7 = some out)
    (K : ∀ (X1 : Mem) (H : Heap) (locs : List Loc) (ls : Array Slot), out = X1 → GL D ca g s 1 cA cB nc np aW aP aC M X1 H locs → lv_has ls 31 [(0, .ref (ca.2.2.2.1)), (1, .ref (g 40)), (2, .int v2), (3, .int v3), (4, .int v4), (7, .int v7), (8, .ref aW)] → W p l e (room_1) s m args below meth c H locs ue uf Q (F0 m 198 ls [])) :
    ∀ (H : Heap) (locs : List Loc) (ls : Array Slot), GL D ca g s 1 cA cB nc np aW aP aC M X H locs → lv_has ls 31 [(0, .ref (ca.2.2.2.1)), (1, .ref (g 40)), (2, .int v2), (3, .int v3), (4, .int v4), (7, .int v7), (8, .ref aW)] → W p l e (room_1) s m args below meth c H locs ue uf Q (F0 m 151 ls []) := by
  have hx := F.1
  have hb := F.2.1
  intro H locs ls hG hl
  unfold m_S2 at h
  refine lv_iconst (v := 0) hx hb dL_law_151 (by decide) ?_
  refine lv_istore (lv' := [(9, .int 0), (0, .ref (ca.2.2.2.1)), (1, .ref (g 40)), (2, .int v2), (3, .int v3), (4, .int v4), (7, .int v7), (8, .ref aW)]) hx hb dL_law_152 hl (by decide) rfl (fun ls hl => ?_)
  obtain ⟨o13, ho14, h⟩ := cb1_e h
  refine m_S2_L154_w (out := o13) (ue := ue) (uf := uf) F hst hA1 hA2 hnc hnp (by omega) (by omega) ?_ _ _ _ ho14 _ _ _ hG (lv_sub hl [1, 2, 3, 4, 5, 6, 7, 0] rfl)
  · intro X15 H locs ls eo hG hl
    subst o13
    exact K _ _ _ _ (som1 h).symm hG (lv_sub hl [0, 1, 2, 3, 4, 5, 6] rfl)
set_option maxHeartbeats 4000000 in
set_option maxRecDepth 100000 in
theorem m_S3_L218_w {p : Program} {l : Launch} {e : Env} {s : State} {m : MethodId} {args : Array Value} {below : List Frame} {meth : Method} {c : Code} {Q : State → Prop} {D : va_G} {ca : vCA} {g : Nat → Nat} {fu : Nat} {cA cB : ClassId} {nc np aW aP aC ue uf : Nat} {M : Mem} {y2 : Int32} {y3 : Int32} {y4 : Int32} {y7 : Int32} {y10 : Int32} {out : Mem} (F : FX p m c cL_law 31 s D ca g RL) (hst : l.stackTraces = false) (hA1 : ArrOfT s cA (.array .int)) (hA2 : ArrOfT s cB (.array .int)) (hnc : nc ≤ 6) (hnp : np ≤ 3) (hE : ue + 0 ≤ 600104) (hF : uf + 0 ≤ 7301313)
    (K : ∀ (X1 : Mem) (H : Heap) (locs : List Loc) (ls : Array Slot), out = X1 → GL D ca g s 2 cA cB nc np aW aP aC M X1 H locs → lv_has ls 31 [(0, .ref (ca.2.2.2.1)), (1, .ref (g 40)), (2, .int y2), (3, .int y3), (4, .int y4), (7, .int y7), (8, .ref aW), (9, .ref aP), (10, .int y10)] → W p l e (room_1) s m args below meth c H locs ue uf Q (F0 m 246 ls [])) :
    ∀ (n : Nat) (X : Mem) (z11 : Int32), m_S3_L218 fu (scr ca) nc np M y2 y3 y4 y7 y10 n X z11 = some out → ∀ (H : Heap) (locs : List Loc) (ls : Array Slot), GL D ca g s 2 cA cB nc np aW aP aC M X H locs → lv_has ls 31 [(0, .ref (ca.2.2.2.1)), (1, .ref (g 40)), (2, .int y2), (3, .int y3), (4, .int y4), (7, .int y7), (8, .ref aW), (9, .ref aP), (10, .int y10), (11, .int z11)] → W p l e (room_1) s m args below meth c H locs ue uf Q (F0 m 218 ls []) := by
  have hx := F.1
  have hb := F.2.1
  intro n
  induction n with
  | zero =>
    intro X z11 h
    exact absurd h (by simp [m_S3_L218])
  | succ n ih =>
    intro X z11 h H locs ls hG hl
    rw [m_S3_L218] at h
    refine lv_iload hx hb dL_law_218 (lv_at hl 9 rfl) ?_
    refine lv_iconst (v := 3) hx hb dL_law_220 (by decide) ?_
    refine lv_icmp_ge (tgt := 246) hx hb dL_law_221 (by decide) (fun c2 => ?_) (fun c2 => ?_)
    · have h := ite_t h c2
      exact K _ _ _ _ (som1 h).symm hG (lv_sub hl [0, 1, 2, 3, 4, 5, 6, 7, 8] rfl)
    · have h := ite_f h c2
      refine lv_aload hx hb dL_law_224 (lv_at hl 7 rfl) ?_
      refine lv_iload hx hb dL_law_226 (lv_at hl 8 rfl) ?_
      obtain ⟨hi3, h⟩ := chk_e h
      refine lx_aP F hA2 (by decide) hG hi3 dL_law_228 ?_
      refine lv_iload hx hb dL_law_229 (lv_at hl 9 rfl) ?_
      refine lv_aload_n hx hb dL_law_231 rfl (lv_at hl 1 rfl) ?_
      refine lv_iload hx hb dL_law_232 (lv_at hl 8 rfl) ?_
      refine lv_iload hx hb dL_law_234 (lv_at hl 9 rfl) ?_
      obtain ⟨r5, hc4, h⟩ := nbd_n h
      refine z_i (r_runV F hG.1 (n_X5_guard l D ca g (show kd 40 = 5 from rfl) hc4) (kd_lt (show kd 40 = 5 from rfl) (by decide)) (gd5 (show kd 40 = 5 from rfl)) rfl (kw141 F.kd) (kw142 F.kd) (kw143 F.kd) (kw1 F.kd) (kw144 F.kd) yd_X5_guard ⟨Nat.le_of_ble_eq_true rfl, Nat.le_of_ble_eq_true rfl⟩ rfl hl.1 rfl (Nat.le_of_ble_eq_true rfl) dL_law_236 ⟨(show ue ≤ 600104 by omega), (show uf ≤ 7301313 by omega)⟩) rfl rfl hG (fun H locs hG => ?_)
      obtain ⟨hi6, h⟩ := chk_e h
      obtain ⟨X7, eX7, h⟩ := mlet_e h
      refine lx_sP F hnc hG hi3 hi6 eX7 dL_law_239 (fun H locs hG => ?_)
      obtain ⟨x8, ex8, h⟩ := mlet_e h
      refine lv_iinc (v := x8) (lv' := [(11, .int x8), (0, .ref (ca.2.2.2.1)), (1, .ref (g 40)), (2, .int y2), (3, .int y3), (4, .int y4), (7, .int y7), (8, .ref aW), (9, .ref aP), (10, .int y10)]) hx hb dL_law_240 hl (k := 9) rfl (by rw [ex8]; rfl) (by decide) rfl (fun ls hl => ?_)
      refine lv_goto (tgt := 218) hx hb dL_law_243 (by decide) ?_
      exact ih X7 x8 h _ _ _ hG (lv_sub hl [1, 2, 3, 4, 5, 6, 7, 8, 9, 0] rfl)
set_option maxHeartbeats 4000000 in
set_option maxRecDepth 100000 in
theorem m_S3_L209_w {p : Program} {l : Launch} {e : Env} {s : State} {m : MethodId} {args : Array Value} {below : List Frame} {meth : Method} {c : Code} {Q : State → Prop} {D : va_G} {ca : vCA} {g : Nat → Nat} {fu : Nat} {cA cB : ClassId} {nc np aW aP aC ue uf : Nat} {M : Mem} {y2 : Int32} {y3 : Int32} {y4 : Int32} {y7 : Int32} {out : Mem} (F : FX p m c cL_law 31 s D ca g RL) (hst : l.stackTraces = false) (hA1 : ArrOfT s cA (.array .int)) (hA2 : ArrOfT s cB (.array .int)) (hnc : nc ≤ 6) (hnp : np ≤ 3) (hE : ue + 0 ≤ 600104) (hF : uf + 0 ≤ 7301313)
    (K : ∀ (X1 : Mem) (H : Heap) (locs : List Loc) (ls : Array Slot), out = X1 → GL D ca g s 2 cA cB nc np aW aP aC M X1 H locs → lv_has ls 31 [(0, .ref (ca.2.2.2.1)), (1, .ref (g 40)), (2, .int y2), (3, .int y3), (4, .int y4), (7, .int y7), (8, .ref aW), (9, .ref aP)] → W p l e (room_1) s m args below meth c H locs ue uf Q (F0 m 252 ls [])) :
    ∀ (n : Nat) (X : Mem) (z10 : Int32), m_S3_L209 fu (scr ca) nc np M y2 y3 y4 y7 n X z10 = some out → ∀ (H : Heap) (locs : List Loc) (ls : Array Slot), GL D ca g s 2 cA cB nc np aW aP aC M X H locs → lv_has ls 31 [(0, .ref (ca.2.2.2.1)), (1, .ref (g 40)), (2, .int y2), (3, .int y3), (4, .int y4), (7, .int y7), (8, .ref aW), (9, .ref aP), (10, .int z10)] → W p l e (room_1) s m args below meth c H locs ue uf Q (F0 m 209 ls []) := by
  have hx := F.1
  have hb := F.2.1
  intro n
  induction n with
  | zero =>
    intro X z10 h
    exact absurd h (by simp [m_S3_L209])
  | succ n ih =>
    intro X z10 h H locs ls hG hl
    rw [m_S3_L209] at h
    refine lv_iload hx hb dL_law_209 (lv_at hl 8 rfl) ?_
    refine lv_iload_n hx hb dL_law_211 rfl (lv_at hl 3 rfl) ?_
    refine lv_icmp_ge (tgt := 252) hx hb dL_law_212 (by decide) (fun c1 => ?_) (fun c1 => ?_)
    · have h := ite_t h c1
      exact K _ _ _ _ (som1 h).symm hG (lv_sub hl [0, 1, 2, 3, 4, 5, 6, 7] rfl)
    · have h := ite_f h c1
      refine lv_iconst (v := 0) hx hb dL_law_215 (by decide) ?_
      refine lv_istore (lv' := [(11, .int 0), (0, .ref (ca.2.2.2.1)), (1, .ref (g 40)), (2, .int y2), (3, .int y3), (4, .int y4), (7, .int y7), (8, .ref aW), (9, .ref aP), (10, .int z10)]) hx hb dL_law_216 hl (by decide) rfl (fun ls hl => ?_)
      obtain ⟨o9, ho10, h⟩ := cb1_e h
      refine m_S3_L218_w (out := o9) (ue := ue) (uf := uf) F hst hA1 hA2 hnc hnp (by omega) (by omega) ?_ _ _ _ ho10 _ _ _ hG (lv_sub hl [1, 2, 3, 4, 5, 6, 7, 8, 9, 0] rfl)
      · intro X11 H locs ls eo hG hl
        subst o9
        obtain ⟨x12, ex12, h⟩ := mlet_e h
        refine lv_iinc (v := x12) (lv' := [(10, .int x12), (0, .ref (ca.2.2.2.1)), (1, .ref (g 40)), (2, .int y2), (3, .int y3), (4, .int y4), (7, .int y7), (8, .ref aW), (9, .ref aP)]) hx hb dL_law_246 hl (k := 8) rfl (by rw [ex12]; rfl) (by decide) rfl (fun ls hl => ?_)
        refine lv_goto (tgt := 209) hx hb dL_law_249 (by decide) ?_
        exact ih X11 x12 h _ _ _ hG (lv_sub hl [1, 2, 3, 4, 5, 6, 7, 8, 0] rfl)
set_option maxHeartbeats 8000000 in
set_option maxRecDepth 100000 in
theorem w_S3 {p : Program} {l : Launch} {e : Env} {s : State} {m : MethodId} {args : Array Value} {below : List Frame} {meth : Method} {c : Code} {Q : State → Prop} {D : va_G} {ca : vCA} {g : Nat → Nat} {fu : Nat} {cA cB : ClassId} {nc np aW aP aC ue uf : Nat} {M X : Mem} {v2 : Int32} {v3 : Int32} {v4 : Int32} {v7 : Int32} {out : Mem} (F : FX p m c cL_law 31 s D ca g RL) (hst : l.stackTraces = false) (hA1 : ArrOfT s cA (.array .int)) (hA2 : ArrOfT s cB (.array .int)) (hnc : nc ≤ 6) (hnp : np ≤ 3) (hE : ue + 0 ≤ 600104) (hF : uf + 0 ≤ 7301313) (h : m_S3 fu (scr ca) nc np M X v2 v3 v4 v7 = some out)
    (K : ∀ (X1 : Mem) (H : Heap) (locs : List Loc) (ls : Array Slot), out = X1 → GL D ca g s 2 cA cB nc np aW aP aC M X1 H locs → lv_has ls 31 [(0, .ref (ca.2.2.2.1)), (1, .ref (g 40)), (2, .int v2), (3, .int v3), (4, .int v4), (7, .int v7), (8, .ref aW), (9, .ref aP)] → W p l e (room_1) s m args below meth c H locs ue uf Q (F0 m 252 ls [])) :
    ∀ (H : Heap) (locs : List Loc) (ls : Array Slot), GL D ca g s 2 cA cB nc np aW aP aC M X H locs → lv_has ls 31 [(0, .ref (ca.2.2.2.1)), (1, .ref (g 40)), (2, .int v2), (3, .int v3), (4, .int v4), (7, .int v7), (8, .ref aW), (9, .ref aP)] → W p l e (room_1) s m args below meth c H locs ue uf Q (F0 m 206 ls []) := by
  have hx := F.1
  have hb := F.2.1
  intro H locs ls hG hl
  unfold m_S3 at h
  refine lv_iconst (v := 0) hx hb dL_law_206 (by decide) ?_
  refine lv_istore (lv' := [(10, .int 0), (0, .ref (ca.2.2.2.1)), (1, .ref (g 40)), (2, .int v2), (3, .int v3), (4, .int v4), (7, .int v7), (8, .ref aW), (9, .ref aP)]) hx hb dL_law_207 hl (by decide) rfl (fun ls hl => ?_)
  obtain ⟨o13, ho14, h⟩ := cb1_e h
  refine m_S3_L209_w (out := o13) (ue := ue) (uf := uf) F hst hA1 hA2 hnc hnp (by omega) (by omega) ?_ _ _ _ ho14 _ _ _ hG (lv_sub hl [1, 2, 3, 4, 5, 6, 7, 8, 0] rfl)
  · intro X15 H locs ls eo hG hl
    subst o13
    exact K _ _ _ _ (som1 h).symm hG (lv_sub hl [0, 1, 2, 3, 4, 5, 6, 7] rfl)
set_option maxHeartbeats 4000000 in
set_option maxRecDepth 100000 in
theorem m_S4_L261_w {p : Program} {l : Launch} {e : Env} {s : State} {m : MethodId} {args : Array Value} {below : List Frame} {meth : Method} {c : Code} {Q : State → Prop} {D : va_G} {ca : vCA} {g : Nat → Nat} {fu : Nat} {cA cB : ClassId} {nc np aW aP aC ue uf : Nat} {M : Mem} {y2 : Int32} {y3 : Int32} {y4 : Int32} {y7 : Int32} {out : Mem} (F : FX p m c cL_law 31 s D ca g RL) (hst : l.stackTraces = false) (hA1 : ArrOfT s cA (.array .int)) (hA2 : ArrOfT s cB (.array .int)) (hnc : nc ≤ 6) (hnp : np ≤ 3) (hE : ue + 0 ≤ 600104) (hF : uf + 0 ≤ 7301313)
    (K : ∀ (X1 : Mem) (H : Heap) (locs : List Loc) (ls : Array Slot), out = X1 → GL D ca g s 3 cA cB nc np aW aP aC M X1 H locs → lv_has ls 31 [(0, .ref (ca.2.2.2.1)), (1, .ref (g 40)), (2, .int y2), (3, .int y3), (4, .int y4), (7, .int y7), (8, .ref aW), (9, .ref aP), (10, .ref aC)] → W p l e (room_1) s m args below meth c H locs ue uf Q (F0 m 293 ls [])) :
    ∀ (n : Nat) (X : Mem) (z11 : Int32), m_S4_L261 fu (scr ca) nc np M y2 y3 y4 y7 n X z11 = some out → ∀ (H : Heap) (locs : List Loc) (ls : Array Slot), GL D ca g s 3 cA cB nc np aW aP aC M X H locs → lv_has ls 31 [(0, .ref (ca.2.2.2.1)), (1, .ref (g 40)), (2, .int y2), (3, .int y3), (4, .int y4), (7, .int y7), (8, .ref aW), (9, .ref aP), (10, .ref aC), (11, .int z11)] → W p l e (room_1) s m args below meth c H locs ue uf Q (F0 m 261 ls []) := by
  have hx := F.1
  have hb := F.2.1
  intro n
  induction n with
  | zero =>
    intro X z11 h
    exact absurd h (by simp [m_S4_L261])
  | succ n ih =>
    intro X z11 h H locs ls hG hl
    rw [m_S4_L261] at h
    refine lv_iload hx hb dL_law_261 (lv_at hl 9 rfl) ?_
    refine lv_bipush (v := 108) hx hb dL_law_263 (by decide) ?_
    refine lv_icmp_ge (tgt := 293) hx hb dL_law_265 (by decide) (fun c1 => ?_) (fun c1 => ?_)
    · have h := ite_t h c1
      exact K _ _ _ _ (som1 h).symm hG (lv_sub hl [0, 1, 2, 3, 4, 5, 6, 7, 8] rfl)
    · have h := ite_f h c1
      refine lv_aload hx hb dL_law_268 (lv_at hl 8 rfl) ?_
      refine lv_iload hx hb dL_law_270 (lv_at hl 9 rfl) ?_
      refine lv_aload_n hx hb dL_law_272 rfl (lv_at hl 1 rfl) ?_
      refine lv_iload hx hb dL_law_273 (lv_at hl 9 rfl) ?_
      refine lv_bipush (v := 12) hx hb dL_law_275 (by decide) ?_
      refine lv_irem hx hb dL_law_277 (by decide) ?_
      refine lv_iload hx hb dL_law_278 (lv_at hl 9 rfl) ?_
      refine lv_bipush (v := 12) hx hb dL_law_280 (by decide) ?_
      refine lv_idiv hx hb dL_law_282 (by decide) ?_
      obtain ⟨r3, hc2, h⟩ := nbd_n h
      refine z_i (r_runV F hG.1 (n_X5_cell l D ca g (show kd 40 = 5 from rfl) hc2) (kd_lt (show kd 40 = 5 from rfl) (by decide)) (gd5 (show kd 40 = 5 from rfl)) rfl (kw16 F.kd) (kw17 F.kd) (kw18 F.kd) (kw1 F.kd) (kw19 F.kd) yd_X5_cell ⟨Nat.le_of_ble_eq_true rfl, Nat.le_of_ble_eq_true rfl⟩ rfl hl.1 rfl (Nat.le_of_ble_eq_true rfl) dL_law_283 ⟨(show ue ≤ 600104 by omega), (show uf ≤ 7301313 by omega)⟩) rfl rfl hG (fun H locs hG => ?_)
      obtain ⟨hi4, h⟩ := chk_e h
      obtain ⟨X5, eX5, h⟩ := mlet_e h
      refine lx_sC F hnc hnp hG hi4 eX5 dL_law_286 (fun H locs hG => ?_)
      obtain ⟨x6, ex6, h⟩ := mlet_e h
      refine lv_iinc (v := x6) (lv' := [(11, .int x6), (0, .ref (ca.2.2.2.1)), (1, .ref (g 40)), (2, .int y2), (3, .int y3), (4, .int y4), (7, .int y7), (8, .ref aW), (9, .ref aP), (10, .ref aC)]) hx hb dL_law_287 hl (k := 9) rfl (by rw [ex6]; rfl) (by decide) rfl (fun ls hl => ?_)
      refine lv_goto (tgt := 261) hx hb dL_law_290 (by decide) ?_
      exact ih X5 x6 h _ _ _ hG (lv_sub hl [1, 2, 3, 4, 5, 6, 7, 8, 9, 0] rfl)
set_option maxHeartbeats 8000000 in
set_option maxRecDepth 100000 in
theorem w_S4 {p : Program} {l : Launch} {e : Env} {s : State} {m : MethodId} {args : Array Value} {below : List Frame} {meth : Method} {c : Code} {Q : State → Prop} {D : va_G} {ca : vCA} {g : Nat → Nat} {fu : Nat} {cA cB : ClassId} {nc np aW aP aC ue uf : Nat} {M X : Mem} {v2 : Int32} {v3 : Int32} {v4 : Int32} {v7 : Int32} {out : Mem} (F : FX p m c cL_law 31 s D ca g RL) (hst : l.stackTraces = false) (hA1 : ArrOfT s cA (.array .int)) (hA2 : ArrOfT s cB (.array .int)) (hnc : nc ≤ 6) (hnp : np ≤ 3) (hE : ue + 0 ≤ 600104) (hF : uf + 0 ≤ 7301313) (h : m_S4 fu (scr ca) nc np M X v2 v3 v4 v7 = some out)
    (K : ∀ (X1 : Mem) (H : Heap) (locs : List Loc) (ls : Array Slot), out = X1 → GL D ca g s 3 cA cB nc np aW aP aC M X1 H locs → lv_has ls 31 [(0, .ref (ca.2.2.2.1)), (1, .ref (g 40)), (2, .int v2), (3, .int v3), (4, .int v4), (7, .int v7), (8, .ref aW), (9, .ref aP), (10, .ref aC)] → W p l e (room_1) s m args below meth c H locs ue uf Q (F0 m 293 ls [])) :
    ∀ (H : Heap) (locs : List Loc) (ls : Array Slot), GL D ca g s 3 cA cB nc np aW aP aC M X H locs → lv_has ls 31 [(0, .ref (ca.2.2.2.1)), (1, .ref (g 40)), (2, .int v2), (3, .int v3), (4, .int v4), (7, .int v7), (8, .ref aW), (9, .ref aP), (10, .ref aC)] → W p l e (room_1) s m args below meth c H locs ue uf Q (F0 m 258 ls []) := by
  have hx := F.1
  have hb := F.2.1
  intro H locs ls hG hl
  unfold m_S4 at h
  refine lv_iconst (v := 0) hx hb dL_law_258 (by decide) ?_
  refine lv_istore (lv' := [(11, .int 0), (0, .ref (ca.2.2.2.1)), (1, .ref (g 40)), (2, .int v2), (3, .int v3), (4, .int v4), (7, .int v7), (8, .ref aW), (9, .ref aP), (10, .ref aC)]) hx hb dL_law_259 hl (by decide) rfl (fun ls hl => ?_)
  obtain ⟨o7, ho8, h⟩ := cb1_e h
  refine m_S4_L261_w (out := o7) (ue := ue) (uf := uf) F hst hA1 hA2 hnc hnp (by omega) (by omega) ?_ _ _ _ ho8 _ _ _ hG (lv_sub hl [1, 2, 3, 4, 5, 6, 7, 8, 9, 0] rfl)
  · intro X9 H locs ls eo hG hl
    subst o7
    exact K _ _ _ _ (som1 h).symm hG (lv_sub hl [0, 1, 2, 3, 4, 5, 6, 7, 8] rfl)

set_option maxHeartbeats 4000000 in
set_option maxRecDepth 100000 in
theorem m_Q0_L21_w {p : Program} {l : Launch} {e : Env} {s : State} {m : MethodId} {args : Array Value} {below : List Frame} {meth : Method} {c : Code} {Q : State → Prop} {D : va_G} {ca : vCA} {g : Nat → Nat} {fu : Nat} {cA cB : ClassId} {nc np aW aP aC ue uf : Nat} {X : Mem} {y2 : Int32} {out : Mem} (F : FX p m c cL_quarter 9 s D ca g RL) (hst : l.stackTraces = false) (hnc : nc ≤ 6) (hnp : np ≤ 3) (hE : ue + 0 ≤ 120) (hF : uf + 0 ≤ 2000)
    (K : ∀ (M1 : Mem) (H : Heap) (locs : List Loc) (ls : Array Slot), out = M1 → GL D ca g s 0 cA cB nc np aW aP aC M1 X H locs → lv_has ls 9 [(0, .ref (ca.2.2.2.1)), (1, .ref (g 40))] → W p l e ({ frames := 9, cells := 120, slots := 2000, locals := 161 }) s m args below meth c H locs ue uf Q (F0 m 96 ls [])) :
    ∀ (n : Nat) (M : Mem) (z3 : Int32), m_Q0_L21 fu (scr ca) nc np X y2 n M z3 = some out → ∀ (H : Heap) (locs : List Loc) (ls : Array Slot), GL D ca g s 0 cA cB nc np aW aP aC M X H locs → lv_has ls 9 [(0, .ref (ca.2.2.2.1)), (1, .ref (g 40)), (2, .int y2), (3, .int z3)] → W p l e ({ frames := 9, cells := 120, slots := 2000, locals := 161 }) s m args below meth c H locs ue uf Q (F0 m 21 ls []) := by
  have hx := F.1
  have hb := F.2.1
  intro n
  induction n with
  | zero =>
    intro M z3 h
    exact absurd h (by simp [m_Q0_L21])
  | succ n ih =>
    intro M z3 h H locs ls hG hl
    rw [m_Q0_L21] at h
    refine lv_iload_n hx hb dL_quarter_21 rfl (lv_at hl 3 rfl) ?_
    refine lv_iload_n hx hb dL_quarter_22 rfl (lv_at hl 2 rfl) ?_
    refine lv_icmp_ge (tgt := 96) hx hb dL_quarter_23 (by decide) (fun c5 => ?_) (fun c5 => ?_)
    · have h := ite_t h c5
      exact K _ _ _ _ (som1 h).symm hG (lv_sub hl [0, 1] rfl)
    · have h := ite_f h c5
      refine lv_aload_n hx hb dL_quarter_26 rfl (lv_at hl 0 rfl) ?_
      refine lv_iconst (v := 1) hx hb dL_quarter_27 (by decide) ?_
      refine lv_iload_n hx hb dL_quarter_28 rfl (lv_at hl 3 rfl) ?_
      refine lv_iconst (v := 3) hx hb dL_quarter_29 (by decide) ?_
      refine lv_irem hx hb dL_quarter_30 (by decide) ?_
      refine lv_iadd hx hb dL_quarter_31 ?_
      obtain ⟨r7, hc6, h⟩ := cb1_e h
      refine z_i (r_runS F hG.1 (c_L_cell l D ca g hc6) (kw385 F.kd) (kw386 F.kd) (kw0 F.kd) (kw387 F.kd) yd_L_cell ⟨Nat.le_of_ble_eq_true rfl, Nat.le_of_ble_eq_true rfl⟩ rfl hl.1 rfl (Nat.le_of_ble_eq_true rfl) dL_quarter_32 ⟨(show ue ≤ 120 by omega), (show uf ≤ 2000 by omega)⟩) rfl rfl hG (fun H locs hG => ?_)
      refine lv_iload_n hx hb dL_quarter_35 rfl (lv_at hl 3 rfl) ?_
      refine lv_iconst (v := 3) hx hb dL_quarter_36 (by decide) ?_
      refine lv_idiv hx hb dL_quarter_37 (by decide) ?_
      refine lv_ishr hx hb dL_quarter_38 ?_
      refine lv_bipush (v := 53) hx hb dL_quarter_39 (by decide) ?_
      refine lv_iload_n hx hb dL_quarter_41 rfl (lv_at hl 3 rfl) ?_
      refine lv_imul hx hb dL_quarter_42 ?_
      refine lv_iadd hx hb dL_quarter_43 ?_
      refine lv_topi (fun x8 ex8 => ?_)
      have h := mlet_n h ex8
      refine lv_istore (lv' := [(4, .int x8), (0, .ref (ca.2.2.2.1)), (1, .ref (g 40)), (2, .int y2), (3, .int z3)]) hx hb dL_quarter_44 hl (by decide) rfl (fun ls hl => ?_)
      refine lv_aload_n hx hb dL_quarter_46 rfl (lv_at hl 2 rfl) ?_
      refine lv_iload hx hb dL_quarter_47 (lv_at hl 0 rfl) ?_
      refine lv_bipush (v := 12) hx hb dL_quarter_49 (by decide) ?_
      obtain ⟨r10, hc9, h⟩ := cb1_e h
      refine z_i (r_runS F hG.1 (c_L_below l D ca g hc9) (kw381 F.kd) (kw382 F.kd) (kw0 F.kd) (kw383 F.kd) yd_L_below ⟨Nat.le_of_ble_eq_true rfl, Nat.le_of_ble_eq_true rfl⟩ rfl hl.1 rfl (Nat.le_of_ble_eq_true rfl) dL_quarter_51 ⟨(show ue ≤ 120 by omega), (show uf ≤ 2000 by omega)⟩) rfl rfl hG (fun H locs hG => ?_)
      refine lv_iload hx hb dL_quarter_54 (lv_at hl 0 rfl) ?_
      refine lv_iconst (v := 4) hx hb dL_quarter_56 (by decide) ?_
      refine lv_ishr hx hb dL_quarter_57 ?_
      refine lv_bipush (v := 9) hx hb dL_quarter_58 (by decide) ?_
      obtain ⟨r12, hc11, h⟩ := cb1_e h
      refine z_i (r_runS F hG.1 (c_L_below l D ca g hc11) (kw381 F.kd) (kw382 F.kd) (kw0 F.kd) (kw383 F.kd) yd_L_below ⟨Nat.le_of_ble_eq_true rfl, Nat.le_of_ble_eq_true rfl⟩ rfl hl.1 rfl (Nat.le_of_ble_eq_true rfl) dL_quarter_60 ⟨(show ue ≤ 120 by omega), (show uf ≤ 2000 by omega)⟩) rfl rfl hG (fun H locs hG => ?_)
      obtain ⟨r14, hc13, h⟩ := nbd_n h
      refine z_i (r_runV F hG.1 (n_X5_cell l D ca g (show kd 40 = 5 from rfl) hc13) (kd_lt (show kd 40 = 5 from rfl) (by decide)) (gd5 (show kd 40 = 5 from rfl)) rfl (kw16 F.kd) (kw17 F.kd) (kw18 F.kd) (kw1 F.kd) (kw19 F.kd) yd_X5_cell ⟨Nat.le_of_ble_eq_true rfl, Nat.le_of_ble_eq_true rfl⟩ rfl hl.1 rfl (Nat.le_of_ble_eq_true rfl) dL_quarter_63 ⟨(show ue ≤ 120 by omega), (show uf ≤ 2000 by omega)⟩) rfl rfl hG (fun H locs hG => ?_)
      obtain ⟨M26, ho16, h⟩ := cb1_e h
      have J17 : ∀ (H : Heap) (locs : List Loc) (ls : Array Slot), GL D ca g s 0 cA cB nc np aW aP aC M26 X H locs → lv_has ls 9 [(4, .int x8), (0, .ref (ca.2.2.2.1)), (1, .ref (g 40)), (2, .int y2), (3, .int z3)] → W p l e ({ frames := 9, cells := 120, slots := 2000, locals := 161 }) s m args below meth c H locs ue uf Q (F0 m 90 ls []) := by
        intro H locs ls hG hl
        obtain ⟨x27, ex27, h⟩ := mlet_e h
        refine lv_iinc (v := x27) (lv' := [(3, .int x27), (4, .int x8), (0, .ref (ca.2.2.2.1)), (1, .ref (g 40)), (2, .int y2)]) hx hb dL_quarter_90 hl (k := 4) rfl (by rw [ex27]; rfl) (by decide) rfl (fun ls hl => ?_)
        refine lv_goto (tgt := 21) hx hb dL_quarter_93 (by decide) ?_
        exact ih M26 x27 h _ _ _ hG (lv_sub hl [2, 3, 4, 0] rfl)
      replace h := ho16
      refine lv_if_ne (tgt := 90) hx hb dL_quarter_66 (by decide) (fun c18 => ?_) (fun c18 => ?_)
      · have h := ite_f h c18
        obtain rfl := som1 h
        exact J17 H locs ls hG hl
      · have h := ite_t h c18
        refine lv_aload_n hx hb dL_quarter_69 rfl (lv_at hl 2 rfl) ?_
        refine lv_iload hx hb dL_quarter_70 (lv_at hl 0 rfl) ?_
        refine lv_bipush (v := 12) hx hb dL_quarter_72 (by decide) ?_
        obtain ⟨r20, hc19, h⟩ := cb1_e h
        refine z_i (r_runS F hG.1 (c_L_below l D ca g hc19) (kw381 F.kd) (kw382 F.kd) (kw0 F.kd) (kw383 F.kd) yd_L_below ⟨Nat.le_of_ble_eq_true rfl, Nat.le_of_ble_eq_true rfl⟩ rfl hl.1 rfl (Nat.le_of_ble_eq_true rfl) dL_quarter_74 ⟨(show ue ≤ 120 by omega), (show uf ≤ 2000 by omega)⟩) rfl rfl hG (fun H locs hG => ?_)
        refine lv_iload hx hb dL_quarter_77 (lv_at hl 0 rfl) ?_
        refine lv_iconst (v := 4) hx hb dL_quarter_79 (by decide) ?_
        refine lv_ishr hx hb dL_quarter_80 ?_
        refine lv_bipush (v := 9) hx hb dL_quarter_81 (by decide) ?_
        obtain ⟨r22, hc21, h⟩ := cb1_e h
        refine z_i (r_runS F hG.1 (c_L_below l D ca g hc21) (kw381 F.kd) (kw382 F.kd) (kw0 F.kd) (kw383 F.kd) yd_L_below ⟨Nat.le_of_ble_eq_true rfl, Nat.le_of_ble_eq_true rfl⟩ rfl hl.1 rfl (Nat.le_of_ble_eq_true rfl) dL_quarter_83 ⟨(show ue ≤ 120 by omega), (show uf ≤ 2000 by omega)⟩) rfl rfl hG (fun H locs hG => ?_)
        obtain ⟨⟨M25, r24⟩, hc23, h⟩ := nbd_n h
        have h := up2_e h
        refine z_i (r_runV F hG.1 (n_X5_house l D ca g (show kd 40 = 5 from rfl) hc23) (kd_lt (show kd 40 = 5 from rfl) (by decide)) (gd5 (show kd 40 = 5 from rfl)) rfl (kw518 F.kd) (kw519 F.kd) (kw520 F.kd) (kw1 F.kd) (kw521 F.kd) yd_X5_house ⟨Nat.le_of_ble_eq_true rfl, Nat.le_of_ble_eq_true rfl⟩ rfl hl.1 rfl (Nat.le_of_ble_eq_true rfl) dL_quarter_86 ⟨(show ue ≤ 120 by omega), (show uf ≤ 2000 by omega)⟩) rfl rfl hG (fun H locs hG => ?_)
        refine lv_pop hx hb dL_quarter_89 rfl ?_
        obtain rfl := som1 h
        exact J17 H locs ls hG hl
set_option maxHeartbeats 4000000 in
set_option maxRecDepth 100000 in
theorem m_Q0_L113_w {p : Program} {l : Launch} {e : Env} {s : State} {m : MethodId} {args : Array Value} {below : List Frame} {meth : Method} {c : Code} {Q : State → Prop} {D : va_G} {ca : vCA} {g : Nat → Nat} {fu : Nat} {cA cB : ClassId} {nc np aW aP aC ue uf : Nat} {X : Mem} {y3 : Int32} {out : Mem} (F : FX p m c cL_quarter 9 s D ca g RL) (hst : l.stackTraces = false) (hnc : nc ≤ 6) (hnp : np ≤ 3) (hE : ue + 0 ≤ 120) (hF : uf + 0 ≤ 2000)
    (K : ∀ (M1 : Mem) (H : Heap) (locs : List Loc) (ls : Array Slot), out = M1 → GL D ca g s 0 cA cB nc np aW aP aC M1 X H locs → lv_has ls 9 [(0, .ref (ca.2.2.2.1)), (1, .ref (g 40))] → W p l e ({ frames := 9, cells := 120, slots := 2000, locals := 161 }) s m args below meth c H locs ue uf Q (F0 m 202 ls [])) :
    ∀ (n : Nat) (M : Mem) (z4 : Int32), m_Q0_L113 fu (scr ca) nc np X y3 n M z4 = some out → ∀ (H : Heap) (locs : List Loc) (ls : Array Slot), GL D ca g s 0 cA cB nc np aW aP aC M X H locs → lv_has ls 9 [(0, .ref (ca.2.2.2.1)), (1, .ref (g 40)), (3, .int y3), (4, .int z4)] → W p l e ({ frames := 9, cells := 120, slots := 2000, locals := 161 }) s m args below meth c H locs ue uf Q (F0 m 113 ls []) := by
  have hx := F.1
  have hb := F.2.1
  intro n
  induction n with
  | zero =>
    intro M z4 h
    exact absurd h (by simp [m_Q0_L113])
  | succ n ih =>
    intro M z4 h H locs ls hG hl
    rw [m_Q0_L113] at h
    refine lv_iload hx hb dL_quarter_113 (lv_at hl 3 rfl) ?_
    refine lv_iload_n hx hb dL_quarter_115 rfl (lv_at hl 2 rfl) ?_
    refine lv_icmp_ge (tgt := 202) hx hb dL_quarter_116 (by decide) (fun c35 => ?_) (fun c35 => ?_)
    · have h := ite_t h c35
      exact K _ _ _ _ (som1 h).symm hG (lv_sub hl [0, 1] rfl)
    · have h := ite_f h c35
      refine lv_aload_n hx hb dL_quarter_119 rfl (lv_at hl 0 rfl) ?_
      refine lv_iconst (v := 4) hx hb dL_quarter_120 (by decide) ?_
      refine lv_iload hx hb dL_quarter_121 (lv_at hl 3 rfl) ?_
      refine lv_iconst (v := 3) hx hb dL_quarter_123 (by decide) ?_
      refine lv_irem hx hb dL_quarter_124 (by decide) ?_
      refine lv_iadd hx hb dL_quarter_125 ?_
      obtain ⟨r37, hc36, h⟩ := cb1_e h
      refine z_i (r_runS F hG.1 (c_L_cell l D ca g hc36) (kw385 F.kd) (kw386 F.kd) (kw0 F.kd) (kw387 F.kd) yd_L_cell ⟨Nat.le_of_ble_eq_true rfl, Nat.le_of_ble_eq_true rfl⟩ rfl hl.1 rfl (Nat.le_of_ble_eq_true rfl) dL_quarter_126 ⟨(show ue ≤ 120 by omega), (show uf ≤ 2000 by omega)⟩) rfl rfl hG (fun H locs hG => ?_)
      refine lv_iload hx hb dL_quarter_129 (lv_at hl 3 rfl) ?_
      refine lv_iconst (v := 3) hx hb dL_quarter_131 (by decide) ?_
      refine lv_idiv hx hb dL_quarter_132 (by decide) ?_
      refine lv_ishr hx hb dL_quarter_133 ?_
      refine lv_bipush (v := 71) hx hb dL_quarter_134 (by decide) ?_
      refine lv_iload hx hb dL_quarter_136 (lv_at hl 3 rfl) ?_
      refine lv_imul hx hb dL_quarter_138 ?_
      refine lv_iadd hx hb dL_quarter_139 ?_
      refine lv_topi (fun x38 ex38 => ?_)
      have h := mlet_n h ex38
      refine lv_istore (lv' := [(5, .int x38), (0, .ref (ca.2.2.2.1)), (1, .ref (g 40)), (3, .int y3), (4, .int z4)]) hx hb dL_quarter_140 hl (by decide) rfl (fun ls hl => ?_)
      refine lv_aload_n hx hb dL_quarter_142 rfl (lv_at hl 2 rfl) ?_
      refine lv_iload hx hb dL_quarter_143 (lv_at hl 0 rfl) ?_
      refine lv_bipush (v := 12) hx hb dL_quarter_145 (by decide) ?_
      obtain ⟨r40, hc39, h⟩ := cb1_e h
      refine z_i (r_runS F hG.1 (c_L_below l D ca g hc39) (kw381 F.kd) (kw382 F.kd) (kw0 F.kd) (kw383 F.kd) yd_L_below ⟨Nat.le_of_ble_eq_true rfl, Nat.le_of_ble_eq_true rfl⟩ rfl hl.1 rfl (Nat.le_of_ble_eq_true rfl) dL_quarter_147 ⟨(show ue ≤ 120 by omega), (show uf ≤ 2000 by omega)⟩) rfl rfl hG (fun H locs hG => ?_)
      refine lv_iload hx hb dL_quarter_150 (lv_at hl 0 rfl) ?_
      refine lv_iconst (v := 4) hx hb dL_quarter_152 (by decide) ?_
      refine lv_ishr hx hb dL_quarter_153 ?_
      refine lv_bipush (v := 9) hx hb dL_quarter_154 (by decide) ?_
      obtain ⟨r42, hc41, h⟩ := cb1_e h
      refine z_i (r_runS F hG.1 (c_L_below l D ca g hc41) (kw381 F.kd) (kw382 F.kd) (kw0 F.kd) (kw383 F.kd) yd_L_below ⟨Nat.le_of_ble_eq_true rfl, Nat.le_of_ble_eq_true rfl⟩ rfl hl.1 rfl (Nat.le_of_ble_eq_true rfl) dL_quarter_156 ⟨(show ue ≤ 120 by omega), (show uf ≤ 2000 by omega)⟩) rfl rfl hG (fun H locs hG => ?_)
      obtain ⟨r44, hc43, h⟩ := nbd_n h
      refine z_i (r_runV F hG.1 (n_X5_cell l D ca g (show kd 40 = 5 from rfl) hc43) (kd_lt (show kd 40 = 5 from rfl) (by decide)) (gd5 (show kd 40 = 5 from rfl)) rfl (kw16 F.kd) (kw17 F.kd) (kw18 F.kd) (kw1 F.kd) (kw19 F.kd) yd_X5_cell ⟨Nat.le_of_ble_eq_true rfl, Nat.le_of_ble_eq_true rfl⟩ rfl hl.1 rfl (Nat.le_of_ble_eq_true rfl) dL_quarter_159 ⟨(show ue ≤ 120 by omega), (show uf ≤ 2000 by omega)⟩) rfl rfl hG (fun H locs hG => ?_)
      obtain ⟨M58, ho46, h⟩ := cb1_e h
      have J47 : ∀ (H : Heap) (locs : List Loc) (ls : Array Slot), GL D ca g s 0 cA cB nc np aW aP aC M58 X H locs → lv_has ls 9 [(5, .int x38), (0, .ref (ca.2.2.2.1)), (1, .ref (g 40)), (3, .int y3), (4, .int z4)] → W p l e ({ frames := 9, cells := 120, slots := 2000, locals := 161 }) s m args below meth c H locs ue uf Q (F0 m 196 ls []) := by
        intro H locs ls hG hl
        obtain ⟨x59, ex59, h⟩ := mlet_e h
        refine lv_iinc (v := x59) (lv' := [(4, .int x59), (5, .int x38), (0, .ref (ca.2.2.2.1)), (1, .ref (g 40)), (3, .int y3)]) hx hb dL_quarter_196 hl (k := 4) rfl (by rw [ex59]; rfl) (by decide) rfl (fun ls hl => ?_)
        refine lv_goto (tgt := 113) hx hb dL_quarter_199 (by decide) ?_
        exact ih M58 x59 h _ _ _ hG (lv_sub hl [2, 3, 4, 0] rfl)
      replace h := ho46
      refine lv_if_lt (tgt := 196) hx hb dL_quarter_162 (by decide) (fun c48 => ?_) (fun c48 => ?_)
      · have h := ite_t h c48
        obtain rfl := som1 h
        exact J47 H locs ls hG hl
      · have h := ite_f h c48
        refine lv_aload_n hx hb dL_quarter_165 rfl (lv_at hl 2 rfl) ?_
        refine lv_iload hx hb dL_quarter_166 (lv_at hl 0 rfl) ?_
        refine lv_bipush (v := 12) hx hb dL_quarter_168 (by decide) ?_
        obtain ⟨r50, hc49, h⟩ := cb1_e h
        refine z_i (r_runS F hG.1 (c_L_below l D ca g hc49) (kw381 F.kd) (kw382 F.kd) (kw0 F.kd) (kw383 F.kd) yd_L_below ⟨Nat.le_of_ble_eq_true rfl, Nat.le_of_ble_eq_true rfl⟩ rfl hl.1 rfl (Nat.le_of_ble_eq_true rfl) dL_quarter_170 ⟨(show ue ≤ 120 by omega), (show uf ≤ 2000 by omega)⟩) rfl rfl hG (fun H locs hG => ?_)
        refine lv_iload hx hb dL_quarter_173 (lv_at hl 0 rfl) ?_
        refine lv_iconst (v := 4) hx hb dL_quarter_175 (by decide) ?_
        refine lv_ishr hx hb dL_quarter_176 ?_
        refine lv_bipush (v := 9) hx hb dL_quarter_177 (by decide) ?_
        obtain ⟨r52, hc51, h⟩ := cb1_e h
        refine z_i (r_runS F hG.1 (c_L_below l D ca g hc51) (kw381 F.kd) (kw382 F.kd) (kw0 F.kd) (kw383 F.kd) yd_L_below ⟨Nat.le_of_ble_eq_true rfl, Nat.le_of_ble_eq_true rfl⟩ rfl hl.1 rfl (Nat.le_of_ble_eq_true rfl) dL_quarter_179 ⟨(show ue ≤ 120 by omega), (show uf ≤ 2000 by omega)⟩) rfl rfl hG (fun H locs hG => ?_)
        refine lv_iconst (v := 1) hx hb dL_quarter_182 (by decide) ?_
        refine lv_iload hx hb dL_quarter_183 (lv_at hl 0 rfl) ?_
        refine lv_iconst (v := 3) hx hb dL_quarter_185 (by decide) ?_
        refine lv_ishr hx hb dL_quarter_186 ?_
        refine lv_iconst (v := 3) hx hb dL_quarter_187 (by decide) ?_
        obtain ⟨r54, hc53, h⟩ := cb1_e h
        refine z_i (r_runS F hG.1 (c_L_below l D ca g hc53) (kw381 F.kd) (kw382 F.kd) (kw0 F.kd) (kw383 F.kd) yd_L_below ⟨Nat.le_of_ble_eq_true rfl, Nat.le_of_ble_eq_true rfl⟩ rfl hl.1 rfl (Nat.le_of_ble_eq_true rfl) dL_quarter_188 ⟨(show ue ≤ 120 by omega), (show uf ≤ 2000 by omega)⟩) rfl rfl hG (fun H locs hG => ?_)
        refine lv_iadd hx hb dL_quarter_191 ?_
        obtain ⟨⟨M57, r56⟩, hc55, h⟩ := nbd_n h
        have h := up2_e h
        refine z_i (r_runV F hG.1 (n_X5_block l D ca g (show kd 40 = 5 from rfl) hc55) (kd_lt (show kd 40 = 5 from rfl) (by decide)) (gd5 (show kd 40 = 5 from rfl)) rfl (kw540 F.kd) (kw541 F.kd) (kw542 F.kd) (kw1 F.kd) (kw543 F.kd) yd_X5_block ⟨Nat.le_of_ble_eq_true rfl, Nat.le_of_ble_eq_true rfl⟩ rfl hl.1 rfl (Nat.le_of_ble_eq_true rfl) dL_quarter_192 ⟨(show ue ≤ 120 by omega), (show uf ≤ 2000 by omega)⟩) rfl rfl hG (fun H locs hG => ?_)
        refine lv_pop hx hb dL_quarter_195 rfl ?_
        obtain rfl := som1 h
        exact J47 H locs ls hG hl
set_option maxHeartbeats 4000000 in
set_option maxRecDepth 100000 in
theorem m_Q0_L218_w {p : Program} {l : Launch} {e : Env} {s : State} {m : MethodId} {args : Array Value} {below : List Frame} {meth : Method} {c : Code} {Q : State → Prop} {D : va_G} {ca : vCA} {g : Nat → Nat} {fu : Nat} {cA cB : ClassId} {nc np aW aP aC ue uf : Nat} {X : Mem} {y4 : Int32} {out : Mem} (F : FX p m c cL_quarter 9 s D ca g RL) (hst : l.stackTraces = false) (hnc : nc ≤ 6) (hnp : np ≤ 3) (hE : ue + 40 ≤ 120) (hF : uf + 240 ≤ 2000)
    (K : ∀ (M1 : Mem) (H : Heap) (locs : List Loc) (ls : Array Slot), out = M1 → GL D ca g s 0 cA cB nc np aW aP aC M1 X H locs → lv_has ls 9 [(0, .ref (ca.2.2.2.1)), (1, .ref (g 40))] → W p l e ({ frames := 9, cells := 120, slots := 2000, locals := 161 }) s m args below meth c H locs (ue + 40) (uf + 240) Q (F0 m 295 ls [])) :
    ∀ (n : Nat), n ≤ 20 → ∀ (M : Mem) (z5 : Int32), m_Q0_L218 fu (scr ca) nc np X y4 n M z5 = some out → ∀ (H : Heap) (locs : List Loc) (ls : Array Slot), GL D ca g s 0 cA cB nc np aW aP aC M X H locs → lv_has ls 9 [(0, .ref (ca.2.2.2.1)), (1, .ref (g 40)), (4, .int y4), (5, .int z5)] → W p l e ({ frames := 9, cells := 120, slots := 2000, locals := 161 }) s m args below meth c H locs (ue + (20 - n) * 2) (uf + (20 - n) * 12) Q (F0 m 218 ls []) := by
  have hx := F.1
  have hb := F.2.1
  intro n
  induction n with
  | zero =>
    intro hn M z5 h
    exact absurd h (by simp [m_Q0_L218])
  | succ n ih =>
    intro hn M z5 h H locs ls hG hl
    obtain ⟨xe, hxe⟩ : ∃ xe, xe = ue + (20 - (n + 1)) * 2 := ⟨_, rfl⟩
    obtain ⟨xf, hxf⟩ : ∃ xf, xf = uf + (20 - (n + 1)) * 12 := ⟨_, rfl⟩
    rw [← hxe, ← hxf]
    rw [m_Q0_L218] at h
    refine lv_iload hx hb dL_quarter_218 (lv_at hl 3 rfl) ?_
    refine lv_iconst (v := 3) hx hb dL_quarter_220 (by decide) ?_
    refine lv_iload hx hb dL_quarter_221 (lv_at hl 2 rfl) ?_
    refine lv_imul hx hb dL_quarter_223 ?_
    refine lv_icmp_ge (tgt := 295) hx hb dL_quarter_224 (by decide) (fun c67 => ?_) (fun c67 => ?_)
    · have h := ite_t h c67
      refine W.widen (k := ue + 40) (n := uf + 240) (by omega) (by omega) ?_
      exact K _ _ _ _ (som1 h).symm hG (lv_sub hl [0, 1] rfl)
    · have h := ite_f h c67
      refine lv_aload_n hx hb dL_quarter_227 rfl (lv_at hl 1 rfl) ?_
      refine lv_iconst (v := 4) hx hb dL_quarter_228 (by decide) ?_
      obtain ⟨r69, hc68, h⟩ := nbd_n h
      refine z_i (r_runV F hG.1 (n_X5_count l D ca g (show kd 40 = 5 from rfl) hc68) (kd_lt (show kd 40 = 5 from rfl) (by decide)) (gd5 (show kd 40 = 5 from rfl)) rfl (kw163 F.kd) (kw164 F.kd) (kw165 F.kd) (kw1 F.kd) (kw166 F.kd) yd_X5_count ⟨Nat.le_of_ble_eq_true rfl, Nat.le_of_ble_eq_true rfl⟩ rfl hl.1 rfl (Nat.le_of_ble_eq_true rfl) dL_quarter_229 ⟨(show xe ≤ 120 by omega), (show xf ≤ 2000 by omega)⟩) rfl rfl hG (fun H locs hG => ?_)
      refine lv_iload hx hb dL_quarter_232 (lv_at hl 2 rfl) ?_
      refine lv_icmp_ge (tgt := 295) hx hb dL_quarter_234 (by decide) (fun c70 => ?_) (fun c70 => ?_)
      · have h := ite_t h c70
        refine W.widen (k := ue + 40) (n := uf + 240) (by omega) (by omega) ?_
        exact K _ _ _ _ (som1 h).symm hG (lv_sub hl [0, 1] rfl)
      · have h := ite_f h c70
        refine lv_aload_n hx hb dL_quarter_237 rfl (lv_at hl 0 rfl) ?_
        refine lv_bipush (v := 8) hx hb dL_quarter_238 (by decide) ?_
        refine lv_iload hx hb dL_quarter_240 (lv_at hl 3 rfl) ?_
        refine lv_iconst (v := 3) hx hb dL_quarter_242 (by decide) ?_
        refine lv_irem hx hb dL_quarter_243 (by decide) ?_
        refine lv_iadd hx hb dL_quarter_244 ?_
        obtain ⟨r72, hc71, h⟩ := cb1_e h
        refine z_i (r_runS F hG.1 (c_L_cell l D ca g hc71) (kw385 F.kd) (kw386 F.kd) (kw0 F.kd) (kw387 F.kd) yd_L_cell ⟨Nat.le_of_ble_eq_true rfl, Nat.le_of_ble_eq_true rfl⟩ rfl hl.1 rfl (Nat.le_of_ble_eq_true rfl) dL_quarter_245 ⟨(show xe ≤ 120 by omega), (show xf ≤ 2000 by omega)⟩) rfl rfl hG (fun H locs hG => ?_)
        refine lv_iload hx hb dL_quarter_248 (lv_at hl 3 rfl) ?_
        refine lv_iconst (v := 3) hx hb dL_quarter_250 (by decide) ?_
        refine lv_idiv hx hb dL_quarter_251 (by decide) ?_
        refine lv_iconst (v := 3) hx hb dL_quarter_252 (by decide) ?_
        refine lv_imul hx hb dL_quarter_253 ?_
        refine lv_ishr hx hb dL_quarter_254 ?_
        refine lv_topi (fun x73 ex73 => ?_)
        have h := mlet_n h ex73
        refine lv_istore (lv' := [(6, .int x73), (0, .ref (ca.2.2.2.1)), (1, .ref (g 40)), (4, .int y4), (5, .int z5)]) hx hb dL_quarter_255 hl (by decide) rfl (fun ls hl => ?_)
        refine lv_aload_n hx hb dL_quarter_257 rfl (lv_at hl 2 rfl) ?_
        refine lv_iload hx hb dL_quarter_258 (lv_at hl 0 rfl) ?_
        refine lv_bipush (v := 12) hx hb dL_quarter_260 (by decide) ?_
        obtain ⟨r75, hc74, h⟩ := cb1_e h
        refine z_i (r_runS F hG.1 (c_L_below l D ca g hc74) (kw381 F.kd) (kw382 F.kd) (kw0 F.kd) (kw383 F.kd) yd_L_below ⟨Nat.le_of_ble_eq_true rfl, Nat.le_of_ble_eq_true rfl⟩ rfl hl.1 rfl (Nat.le_of_ble_eq_true rfl) dL_quarter_262 ⟨(show xe ≤ 120 by omega), (show xf ≤ 2000 by omega)⟩) rfl rfl hG (fun H locs hG => ?_)
        refine lv_iload hx hb dL_quarter_265 (lv_at hl 0 rfl) ?_
        refine lv_iconst (v := 4) hx hb dL_quarter_267 (by decide) ?_
        refine lv_ishr hx hb dL_quarter_268 ?_
        refine lv_bipush (v := 9) hx hb dL_quarter_269 (by decide) ?_
        obtain ⟨r77, hc76, h⟩ := cb1_e h
        refine z_i (r_runS F hG.1 (c_L_below l D ca g hc76) (kw381 F.kd) (kw382 F.kd) (kw0 F.kd) (kw383 F.kd) yd_L_below ⟨Nat.le_of_ble_eq_true rfl, Nat.le_of_ble_eq_true rfl⟩ rfl hl.1 rfl (Nat.le_of_ble_eq_true rfl) dL_quarter_271 ⟨(show xe ≤ 120 by omega), (show xf ≤ 2000 by omega)⟩) rfl rfl hG (fun H locs hG => ?_)
        refine lv_iconst (v := 1) hx hb dL_quarter_274 (by decide) ?_
        refine lv_iload hx hb dL_quarter_275 (lv_at hl 0 rfl) ?_
        refine lv_iconst (v := 2) hx hb dL_quarter_277 (by decide) ?_
        refine lv_ishr hx hb dL_quarter_278 ?_
        refine lv_bipush (v := 9) hx hb dL_quarter_279 (by decide) ?_
        obtain ⟨r79, hc78, h⟩ := cb1_e h
        refine z_i (r_runS F hG.1 (c_L_below l D ca g hc78) (kw381 F.kd) (kw382 F.kd) (kw0 F.kd) (kw383 F.kd) yd_L_below ⟨Nat.le_of_ble_eq_true rfl, Nat.le_of_ble_eq_true rfl⟩ rfl hl.1 rfl (Nat.le_of_ble_eq_true rfl) dL_quarter_281 ⟨(show xe ≤ 120 by omega), (show xf ≤ 2000 by omega)⟩) rfl rfl hG (fun H locs hG => ?_)
        refine lv_iadd hx hb dL_quarter_284 ?_
        obtain ⟨M82, r81, hc80, h⟩ := cb2_e h
        refine y_i (a := 2) (b := 12) (l_runSH F hG.1 (c_L_gather l D ca g hst (show kd 40 = 5 from rfl) hc80) (kw546 F.kd) (kw547 F.kd) (kw0 F.kd) (kw548 F.kd) yd_L_gather ⟨Nat.le_of_ble_eq_true rfl, Nat.le_of_ble_eq_true rfl⟩ rfl hl.1 rfl (Nat.le_of_ble_eq_true rfl) dL_quarter_285 ⟨(show xe + 2 ≤ 120 by omega), (show xf + 12 ≤ 2000 by omega)⟩) rfl rfl hG (fun ne83 nf84 H locs hne83 hnf84 hG => ?_)
        refine lv_pop hx hb dL_quarter_288 rfl ?_
        obtain ⟨x85, ex85, h⟩ := mlet_e h
        refine lv_iinc (v := x85) (lv' := [(5, .int x85), (6, .int x73), (0, .ref (ca.2.2.2.1)), (1, .ref (g 40)), (4, .int y4)]) hx hb dL_quarter_289 hl (k := 4) rfl (by rw [ex85]; rfl) (by decide) rfl (fun ls hl => ?_)
        refine lv_goto (tgt := 218) hx hb dL_quarter_292 (by decide) ?_
        refine W.widen (k := ue + (20 - n) * 2) (n := uf + (20 - n) * 12) (by omega) (by omega) ?_
        exact ih (by omega) M82 x85 h _ _ _ hG (lv_sub hl [2, 3, 4, 0] rfl)
set_option maxHeartbeats 4000000 in
set_option maxRecDepth 100000 in
theorem m_Q0_L312_w {p : Program} {l : Launch} {e : Env} {s : State} {m : MethodId} {args : Array Value} {below : List Frame} {meth : Method} {c : Code} {Q : State → Prop} {D : va_G} {ca : vCA} {g : Nat → Nat} {fu : Nat} {cA cB : ClassId} {nc np aW aP aC ue uf : Nat} {X : Mem} {y5 : Int32} {out : Mem} (F : FX p m c cL_quarter 9 s D ca g RL) (hst : l.stackTraces = false) (hnc : nc ≤ 6) (hnp : np ≤ 3) (hE : ue + 10 ≤ 120) (hF : uf + 60 ≤ 2000)
    (K : ∀ (M1 : Mem) (H : Heap) (locs : List Loc) (ls : Array Slot), out = M1 → GL D ca g s 0 cA cB nc np aW aP aC M1 X H locs → lv_has ls 9 [(0, .ref (ca.2.2.2.1)), (1, .ref (g 40))] → W p l e ({ frames := 9, cells := 120, slots := 2000, locals := 161 }) s m args below meth c H locs (ue + 10) (uf + 60) Q (F0 m 392 ls [])) :
    ∀ (n : Nat), n ≤ 5 → ∀ (M : Mem) (z6 : Int32), m_Q0_L312 fu (scr ca) nc np X y5 n M z6 = some out → ∀ (H : Heap) (locs : List Loc) (ls : Array Slot), GL D ca g s 0 cA cB nc np aW aP aC M X H locs → lv_has ls 9 [(0, .ref (ca.2.2.2.1)), (1, .ref (g 40)), (5, .int y5), (6, .int z6)] → W p l e ({ frames := 9, cells := 120, slots := 2000, locals := 161 }) s m args below meth c H locs (ue + (5 - n) * 2) (uf + (5 - n) * 12) Q (F0 m 312 ls []) := by
  have hx := F.1
  have hb := F.2.1
  intro n
  induction n with
  | zero =>
    intro hn M z6 h
    exact absurd h (by simp [m_Q0_L312])
  | succ n ih =>
    intro hn M z6 h H locs ls hG hl
    obtain ⟨xe, hxe⟩ : ∃ xe, xe = ue + (5 - (n + 1)) * 2 := ⟨_, rfl⟩
    obtain ⟨xf, hxf⟩ : ∃ xf, xf = uf + (5 - (n + 1)) * 12 := ⟨_, rfl⟩
    rw [← hxe, ← hxf]
    rw [m_Q0_L312] at h
    refine lv_iload hx hb dL_quarter_312 (lv_at hl 3 rfl) ?_
    refine lv_iload hx hb dL_quarter_314 (lv_at hl 2 rfl) ?_
    refine lv_icmp_ge (tgt := 392) hx hb dL_quarter_316 (by decide) (fun c95 => ?_) (fun c95 => ?_)
    · have h := ite_t h c95
      refine W.widen (k := ue + 10) (n := uf + 60) (by omega) (by omega) ?_
      exact K _ _ _ _ (som1 h).symm hG (lv_sub hl [0, 1] rfl)
    · have h := ite_f h c95
      refine lv_aload_n hx hb dL_quarter_319 rfl (lv_at hl 0 rfl) ?_
      refine lv_bipush (v := 11) hx hb dL_quarter_320 (by decide) ?_
      obtain ⟨r97, hc96, h⟩ := cb1_e h
      refine z_i (r_runS F hG.1 (c_L_cell l D ca g hc96) (kw385 F.kd) (kw386 F.kd) (kw0 F.kd) (kw387 F.kd) yd_L_cell ⟨Nat.le_of_ble_eq_true rfl, Nat.le_of_ble_eq_true rfl⟩ rfl hl.1 rfl (Nat.le_of_ble_eq_true rfl) dL_quarter_322 ⟨(show xe ≤ 120 by omega), (show xf ≤ 2000 by omega)⟩) rfl rfl hG (fun H locs hG => ?_)
      refine lv_iconst (v := 4) hx hb dL_quarter_325 (by decide) ?_
      refine lv_iload hx hb dL_quarter_326 (lv_at hl 3 rfl) ?_
      refine lv_imul hx hb dL_quarter_328 ?_
      refine lv_ishr hx hb dL_quarter_329 ?_
      refine lv_topi (fun x98 ex98 => ?_)
      have h := mlet_n h ex98
      refine lv_istore (lv' := [(7, .int x98), (0, .ref (ca.2.2.2.1)), (1, .ref (g 40)), (5, .int y5), (6, .int z6)]) hx hb dL_quarter_330 hl (by decide) rfl (fun ls hl => ?_)
      refine lv_iconst (v := 1) hx hb dL_quarter_332 (by decide) ?_
      refine lv_iload hx hb dL_quarter_333 (lv_at hl 0 rfl) ?_
      refine lv_iconst (v := 3) hx hb dL_quarter_335 (by decide) ?_
      refine lv_ishr hx hb dL_quarter_336 ?_
      refine lv_bipush (v := 12) hx hb dL_quarter_337 (by decide) ?_
      obtain ⟨r100, hc99, h⟩ := cb1_e h
      refine z_i (r_runS F hG.1 (c_L_below l D ca g hc99) (kw381 F.kd) (kw382 F.kd) (kw0 F.kd) (kw383 F.kd) yd_L_below ⟨Nat.le_of_ble_eq_true rfl, Nat.le_of_ble_eq_true rfl⟩ rfl hl.1 rfl (Nat.le_of_ble_eq_true rfl) dL_quarter_339 ⟨(show xe ≤ 120 by omega), (show xf ≤ 2000 by omega)⟩) rfl rfl hG (fun H locs hG => ?_)
      refine lv_iadd hx hb dL_quarter_342 ?_
      refine lv_topi (fun x101 ex101 => ?_)
      have h := mlet_n h ex101
      refine lv_istore (lv' := [(8, .int x101), (7, .int x98), (0, .ref (ca.2.2.2.1)), (1, .ref (g 40)), (5, .int y5), (6, .int z6)]) hx hb dL_quarter_343 hl (by decide) rfl (fun ls hl => ?_)
      refine lv_aload_n hx hb dL_quarter_345 rfl (lv_at hl 3 rfl) ?_
      refine lv_iload hx hb dL_quarter_346 (lv_at hl 1 rfl) ?_
      refine lv_bipush (v := 12) hx hb dL_quarter_348 (by decide) ?_
      obtain ⟨r103, hc102, h⟩ := cb1_e h
      refine z_i (r_runS F hG.1 (c_L_below l D ca g hc102) (kw381 F.kd) (kw382 F.kd) (kw0 F.kd) (kw383 F.kd) yd_L_below ⟨Nat.le_of_ble_eq_true rfl, Nat.le_of_ble_eq_true rfl⟩ rfl hl.1 rfl (Nat.le_of_ble_eq_true rfl) dL_quarter_350 ⟨(show xe ≤ 120 by omega), (show xf ≤ 2000 by omega)⟩) rfl rfl hG (fun H locs hG => ?_)
      refine lv_iload hx hb dL_quarter_353 (lv_at hl 1 rfl) ?_
      refine lv_iconst (v := 5) hx hb dL_quarter_355 (by decide) ?_
      refine lv_ishr hx hb dL_quarter_356 ?_
      refine lv_bipush (v := 9) hx hb dL_quarter_357 (by decide) ?_
      obtain ⟨r105, hc104, h⟩ := cb1_e h
      refine z_i (r_runS F hG.1 (c_L_below l D ca g hc104) (kw381 F.kd) (kw382 F.kd) (kw0 F.kd) (kw383 F.kd) yd_L_below ⟨Nat.le_of_ble_eq_true rfl, Nat.le_of_ble_eq_true rfl⟩ rfl hl.1 rfl (Nat.le_of_ble_eq_true rfl) dL_quarter_359 ⟨(show xe ≤ 120 by omega), (show xf ≤ 2000 by omega)⟩) rfl rfl hG (fun H locs hG => ?_)
      refine lv_iload hx hb dL_quarter_362 (lv_at hl 0 rfl) ?_
      refine lv_aload_n hx hb dL_quarter_364 rfl (lv_at hl 2 rfl) ?_
      refine lv_bipush (v := 12) hx hb dL_quarter_365 (by decide) ?_
      obtain ⟨r107, hc106, h⟩ := cb1_e h
      refine z_i (r_runS F hG.1 (c_L_cell l D ca g hc106) (kw385 F.kd) (kw386 F.kd) (kw0 F.kd) (kw387 F.kd) yd_L_cell ⟨Nat.le_of_ble_eq_true rfl, Nat.le_of_ble_eq_true rfl⟩ rfl hl.1 rfl (Nat.le_of_ble_eq_true rfl) dL_quarter_367 ⟨(show xe ≤ 120 by omega), (show xf ≤ 2000 by omega)⟩) rfl rfl hG (fun H locs hG => ?_)
      refine lv_iload hx hb dL_quarter_370 (lv_at hl 5 rfl) ?_
      refine lv_ishr hx hb dL_quarter_372 ?_
      refine lv_iconst (v := 1) hx hb dL_quarter_373 (by decide) ?_
      refine lv_iconst (v := 2) hx hb dL_quarter_374 (by decide) ?_
      refine lv_iload hx hb dL_quarter_375 (lv_at hl 0 rfl) ?_
      refine lv_imul hx hb dL_quarter_377 ?_
      refine lv_ishl hx hb dL_quarter_378 ?_
      refine lv_iconst (v := 1) hx hb dL_quarter_379 (by decide) ?_
      refine lv_isub hx hb dL_quarter_380 ?_
      refine lv_iand hx hb dL_quarter_381 ?_
      obtain ⟨M110, r109, hc108, h⟩ := cb2_e h
      refine y_i (a := 2) (b := 12) (l_runSH F hG.1 (c_L_patrol l D ca g hst (show kd 40 = 5 from rfl) hc108) (kw561 F.kd) (kw562 F.kd) (kw0 F.kd) (kw563 F.kd) yd_L_patrol ⟨Nat.le_of_ble_eq_true rfl, Nat.le_of_ble_eq_true rfl⟩ rfl hl.1 rfl (Nat.le_of_ble_eq_true rfl) dL_quarter_382 ⟨(show xe + 2 ≤ 120 by omega), (show xf + 12 ≤ 2000 by omega)⟩) rfl rfl hG (fun ne111 nf112 H locs hne111 hnf112 hG => ?_)
      refine lv_pop hx hb dL_quarter_385 rfl ?_
      obtain ⟨x113, ex113, h⟩ := mlet_e h
      refine lv_iinc (v := x113) (lv' := [(6, .int x113), (8, .int x101), (7, .int x98), (0, .ref (ca.2.2.2.1)), (1, .ref (g 40)), (5, .int y5)]) hx hb dL_quarter_386 hl (k := 5) rfl (by rw [ex113]; rfl) (by decide) rfl (fun ls hl => ?_)
      refine lv_goto (tgt := 312) hx hb dL_quarter_389 (by decide) ?_
      refine W.widen (k := ue + (5 - n) * 2) (n := uf + (5 - n) * 12) (by omega) (by omega) ?_
      exact ih (by omega) M110 x113 h _ _ _ hG (lv_sub hl [3, 4, 5, 0] rfl)
set_option maxHeartbeats 4000000 in
set_option maxRecDepth 100000 in
theorem m_Q0_L432_w {p : Program} {l : Launch} {e : Env} {s : State} {m : MethodId} {args : Array Value} {below : List Frame} {meth : Method} {c : Code} {Q : State → Prop} {D : va_G} {ca : vCA} {g : Nat → Nat} {fu : Nat} {cA cB : ClassId} {nc np aW aP aC ue uf : Nat} {X : Mem} {y6 : Int32} {y7 : Int32} {out : Mem} (F : FX p m c cL_quarter 9 s D ca g RL) (hst : l.stackTraces = false) (hnc : nc ≤ 6) (hnp : np ≤ 3) (hE : ue + 0 ≤ 120) (hF : uf + 0 ≤ 2000)
    (K : ∀ (M1 : Mem) (H : Heap) (locs : List Loc) (ls : Array Slot), out = M1 → GL D ca g s 0 cA cB nc np aW aP aC M1 X H locs → lv_has ls 9 [(0, .ref (ca.2.2.2.1)), (1, .ref (g 40)), (6, .int y6), (7, .int y7)] → W p l e ({ frames := 9, cells := 120, slots := 2000, locals := 161 }) s m args below meth c H locs ue uf Q (F0 m 488 ls [])) :
    ∀ (n : Nat) (M : Mem) (z8 : Int32), m_Q0_L432 fu (scr ca) nc np X y6 y7 n M z8 = some out → ∀ (H : Heap) (locs : List Loc) (ls : Array Slot), GL D ca g s 0 cA cB nc np aW aP aC M X H locs → lv_has ls 9 [(0, .ref (ca.2.2.2.1)), (1, .ref (g 40)), (6, .int y6), (7, .int y7), (8, .int z8)] → W p l e ({ frames := 9, cells := 120, slots := 2000, locals := 161 }) s m args below meth c H locs ue uf Q (F0 m 432 ls []) := by
  have hx := F.1
  have hb := F.2.1
  intro n
  induction n with
  | zero =>
    intro M z8 h
    exact absurd h (by simp [m_Q0_L432])
  | succ n ih =>
    intro M z8 h H locs ls hG hl
    rw [m_Q0_L432] at h
    refine lv_iload hx hb dL_quarter_432 (lv_at hl 4 rfl) ?_
    refine lv_if_le (tgt := 488) hx hb dL_quarter_434 (by decide) (fun c127 => ?_) (fun c127 => ?_)
    · have h := ite_t h c127
      exact K _ _ _ _ (som1 h).symm hG (lv_sub hl [0, 1, 2, 3] rfl)
    · have h := ite_f h c127
      refine lv_aload_n hx hb dL_quarter_437 rfl (lv_at hl 1 rfl) ?_
      refine lv_iload hx hb dL_quarter_438 (lv_at hl 2 rfl) ?_
      refine lv_iload hx hb dL_quarter_440 (lv_at hl 3 rfl) ?_
      refine lv_iload hx hb dL_quarter_442 (lv_at hl 4 rfl) ?_
      refine lv_ishr hx hb dL_quarter_444 ?_
      refine lv_iconst (v := 3) hx hb dL_quarter_445 (by decide) ?_
      obtain ⟨r129, hc128, h⟩ := cb1_e h
      refine z_i (r_runS F hG.1 (c_L_below l D ca g hc128) (kw381 F.kd) (kw382 F.kd) (kw0 F.kd) (kw383 F.kd) yd_L_below ⟨Nat.le_of_ble_eq_true rfl, Nat.le_of_ble_eq_true rfl⟩ rfl hl.1 rfl (Nat.le_of_ble_eq_true rfl) dL_quarter_446 ⟨(show ue ≤ 120 by omega), (show uf ≤ 2000 by omega)⟩) rfl rfl hG (fun H locs hG => ?_)
      obtain ⟨o130, ho131, h⟩ := cb1_e h
      have J132 : ∀ (H : Heap) (locs : List Loc) (ls : Array Slot), GL D ca g s 0 cA cB nc np aW aP aC M X H locs → lv_has ls 9 [(0, .ref (ca.2.2.2.1)), (1, .ref (g 40)), (6, .int y6), (7, .int y7), (8, .int z8)] → W p l e ({ frames := 9, cells := 120, slots := 2000, locals := 161 }) s m args below meth c H locs ue uf Q (F0 m 478 ls [.int o130, .int y6, .ref (g 40)]) := by
        intro H locs ls hG hl
        obtain ⟨⟨M140, r139⟩, hc138, h⟩ := nbd_n h
        have h := up2_e h
        refine z_i (r_runV F hG.1 (n_X5_order l D ca g (show kd 40 = 5 from rfl) hc138) (kd_lt (show kd 40 = 5 from rfl) (by decide)) (gd5 (show kd 40 = 5 from rfl)) rfl (kw574 F.kd) (kw575 F.kd) (kw576 F.kd) (kw1 F.kd) (kw577 F.kd) yd_X5_order ⟨Nat.le_of_ble_eq_true rfl, Nat.le_of_ble_eq_true rfl⟩ rfl hl.1 rfl (Nat.le_of_ble_eq_true rfl) dL_quarter_478 ⟨(show ue ≤ 120 by omega), (show uf ≤ 2000 by omega)⟩) rfl rfl hG (fun H locs hG => ?_)
        refine lv_pop hx hb dL_quarter_481 rfl ?_
        obtain ⟨x141, ex141, h⟩ := mlet_e h
        refine lv_iinc (v := x141) (lv' := [(8, .int x141), (0, .ref (ca.2.2.2.1)), (1, .ref (g 40)), (6, .int y6), (7, .int y7)]) hx hb dL_quarter_482 hl (k := 4) rfl (by rw [ex141]; rfl) (by decide) rfl (fun ls hl => ?_)
        refine lv_goto (tgt := 432) hx hb dL_quarter_485 (by decide) ?_
        exact ih M140 x141 h _ _ _ hG (lv_sub hl [1, 2, 3, 4, 0] rfl)
      replace h := ho131
      refine lv_if_ne (tgt := 467) hx hb dL_quarter_449 (by decide) (fun c133 => ?_) (fun c133 => ?_)
      · have h := ite_f h c133
        refine lv_iload hx hb dL_quarter_467 (lv_at hl 3 rfl) ?_
        refine lv_iconst (v := 2) hx hb dL_quarter_469 (by decide) ?_
        refine lv_iload hx hb dL_quarter_470 (lv_at hl 4 rfl) ?_
        refine lv_iadd hx hb dL_quarter_472 ?_
        refine lv_ishr hx hb dL_quarter_473 ?_
        refine lv_iconst (v := 4) hx hb dL_quarter_474 (by decide) ?_
        obtain ⟨r135, hc134, h⟩ := cb1_e h
        refine z_i (r_runS F hG.1 (c_L_below l D ca g hc134) (kw381 F.kd) (kw382 F.kd) (kw0 F.kd) (kw383 F.kd) yd_L_below ⟨Nat.le_of_ble_eq_true rfl, Nat.le_of_ble_eq_true rfl⟩ rfl hl.1 rfl (Nat.le_of_ble_eq_true rfl) dL_quarter_475 ⟨(show ue ≤ 120 by omega), (show uf ≤ 2000 by omega)⟩) rfl rfl hG (fun H locs hG => ?_)
        obtain rfl := som1 h
        exact J132 H locs ls hG hl
      · have h := ite_t h c133
        refine lv_iload hx hb dL_quarter_452 (lv_at hl 3 rfl) ?_
        refine lv_iconst (v := 1) hx hb dL_quarter_454 (by decide) ?_
        refine lv_iload hx hb dL_quarter_455 (lv_at hl 4 rfl) ?_
        refine lv_iadd hx hb dL_quarter_457 ?_
        refine lv_ishr hx hb dL_quarter_458 ?_
        refine lv_bipush (v := 12) hx hb dL_quarter_459 (by decide) ?_
        obtain ⟨r137, hc136, h⟩ := cb1_e h
        refine z_i (r_runS F hG.1 (c_L_below l D ca g hc136) (kw381 F.kd) (kw382 F.kd) (kw0 F.kd) (kw383 F.kd) yd_L_below ⟨Nat.le_of_ble_eq_true rfl, Nat.le_of_ble_eq_true rfl⟩ rfl hl.1 rfl (Nat.le_of_ble_eq_true rfl) dL_quarter_461 ⟨(show ue ≤ 120 by omega), (show uf ≤ 2000 by omega)⟩) rfl rfl hG (fun H locs hG => ?_)
        refine lv_goto (tgt := 478) hx hb dL_quarter_464 (by decide) ?_
        obtain rfl := som1 h
        exact J132 H locs ls hG hl
set_option maxHeartbeats 4000000 in
set_option maxRecDepth 100000 in
theorem m_Q0_L395_w {p : Program} {l : Launch} {e : Env} {s : State} {m : MethodId} {args : Array Value} {below : List Frame} {meth : Method} {c : Code} {Q : State → Prop} {D : va_G} {ca : vCA} {g : Nat → Nat} {fu : Nat} {cA cB : ClassId} {nc np aW aP aC ue uf : Nat} {X : Mem} {out : Mem} (F : FX p m c cL_quarter 9 s D ca g RL) (hst : l.stackTraces = false) (hnc : nc ≤ 6) (hnp : np ≤ 3) (hE : ue + 0 ≤ 120) (hF : uf + 0 ≤ 2000)
    (K : ∀ (M1 : Mem) (H : Heap) (locs : List Loc) (ls : Array Slot), out = M1 → GL D ca g s 0 cA cB nc np aW aP aC M1 X H locs → lv_has ls 9 [(0, .ref (ca.2.2.2.1)), (1, .ref (g 40))] → W p l e ({ frames := 9, cells := 120, slots := 2000, locals := 161 }) s m args below meth c H locs ue uf Q (F0 m 512 ls [])) :
    ∀ (n : Nat) (M : Mem) (z6 : Int32), m_Q0_L395 fu (scr ca) nc np X n M z6 = some out → ∀ (H : Heap) (locs : List Loc) (ls : Array Slot), GL D ca g s 0 cA cB nc np aW aP aC M X H locs → lv_has ls 9 [(0, .ref (ca.2.2.2.1)), (1, .ref (g 40)), (6, .int z6)] → W p l e ({ frames := 9, cells := 120, slots := 2000, locals := 161 }) s m args below meth c H locs ue uf Q (F0 m 395 ls []) := by
  have hx := F.1
  have hb := F.2.1
  intro n
  induction n with
  | zero =>
    intro M z6 h
    exact absurd h (by simp [m_Q0_L395])
  | succ n ih =>
    intro M z6 h H locs ls hG hl
    rw [m_Q0_L395] at h
    refine lv_iload hx hb dL_quarter_395 (lv_at hl 2 rfl) ?_
    refine lv_aload_n hx hb dL_quarter_397 rfl (lv_at hl 1 rfl) ?_
    refine lv_iconst (v := 4) hx hb dL_quarter_398 (by decide) ?_
    obtain ⟨r120, hc119, h⟩ := nbd_n h
    refine z_i (r_runV F hG.1 (n_X5_count l D ca g (show kd 40 = 5 from rfl) hc119) (kd_lt (show kd 40 = 5 from rfl) (by decide)) (gd5 (show kd 40 = 5 from rfl)) rfl (kw163 F.kd) (kw164 F.kd) (kw165 F.kd) (kw1 F.kd) (kw166 F.kd) yd_X5_count ⟨Nat.le_of_ble_eq_true rfl, Nat.le_of_ble_eq_true rfl⟩ rfl hl.1 rfl (Nat.le_of_ble_eq_true rfl) dL_quarter_399 ⟨(show ue ≤ 120 by omega), (show uf ≤ 2000 by omega)⟩) rfl rfl hG (fun H locs hG => ?_)
    refine lv_icmp_ge (tgt := 512) hx hb dL_quarter_402 (by decide) (fun c121 => ?_) (fun c121 => ?_)
    · have h := ite_t h c121
      exact K _ _ _ _ (som1 h).symm hG (lv_sub hl [0, 1] rfl)
    · have h := ite_f h c121
      refine lv_aload_n hx hb dL_quarter_405 rfl (lv_at hl 0 rfl) ?_
      refine lv_bipush (v := 13) hx hb dL_quarter_406 (by decide) ?_
      refine lv_iload hx hb dL_quarter_408 (lv_at hl 2 rfl) ?_
      refine lv_iconst (v := 3) hx hb dL_quarter_410 (by decide) ?_
      refine lv_irem hx hb dL_quarter_411 (by decide) ?_
      refine lv_iadd hx hb dL_quarter_412 ?_
      obtain ⟨r123, hc122, h⟩ := cb1_e h
      refine z_i (r_runS F hG.1 (c_L_cell l D ca g hc122) (kw385 F.kd) (kw386 F.kd) (kw0 F.kd) (kw387 F.kd) yd_L_cell ⟨Nat.le_of_ble_eq_true rfl, Nat.le_of_ble_eq_true rfl⟩ rfl hl.1 rfl (Nat.le_of_ble_eq_true rfl) dL_quarter_413 ⟨(show ue ≤ 120 by omega), (show uf ≤ 2000 by omega)⟩) rfl rfl hG (fun H locs hG => ?_)
      refine lv_iload hx hb dL_quarter_416 (lv_at hl 2 rfl) ?_
      refine lv_iconst (v := 3) hx hb dL_quarter_418 (by decide) ?_
      refine lv_idiv hx hb dL_quarter_419 (by decide) ?_
      refine lv_ishr hx hb dL_quarter_420 ?_
      refine lv_topi (fun x124 ex124 => ?_)
      have h := mlet_n h ex124
      refine lv_istore (lv' := [(7, .int x124), (0, .ref (ca.2.2.2.1)), (1, .ref (g 40)), (6, .int z6)]) hx hb dL_quarter_421 hl (by decide) rfl (fun ls hl => ?_)
      refine lv_iload hx hb dL_quarter_423 (lv_at hl 0 rfl) ?_
      refine lv_bipush (v := 16) hx hb dL_quarter_425 (by decide) ?_
      obtain ⟨r126, hc125, h⟩ := cb1_e h
      refine z_i (r_runS F hG.1 (c_L_below l D ca g hc125) (kw381 F.kd) (kw382 F.kd) (kw0 F.kd) (kw383 F.kd) yd_L_below ⟨Nat.le_of_ble_eq_true rfl, Nat.le_of_ble_eq_true rfl⟩ rfl hl.1 rfl (Nat.le_of_ble_eq_true rfl) dL_quarter_427 ⟨(show ue ≤ 120 by omega), (show uf ≤ 2000 by omega)⟩) rfl rfl hG (fun H locs hG => ?_)
      refine lv_istore (lv' := [(8, .int r126), (7, .int x124), (0, .ref (ca.2.2.2.1)), (1, .ref (g 40)), (6, .int z6)]) hx hb dL_quarter_430 hl (by decide) rfl (fun ls hl => ?_)
      obtain ⟨o142, ho143, h⟩ := cb1_e h
      refine m_Q0_L432_w (out := o142) (ue := ue) (uf := uf) F hst hnc hnp (by omega) (by omega) ?_ _ _ _ ho143 _ _ _ hG (lv_sub hl [2, 3, 4, 1, 0] rfl)
      · intro M144 H locs ls eo hG hl
        subst o142
        refine lv_iload hx hb dL_quarter_488 (lv_at hl 3 rfl) ?_
        refine lv_iconst (v := 5) hx hb dL_quarter_490 (by decide) ?_
        refine lv_ishr hx hb dL_quarter_491 ?_
        refine lv_iconst (v := 3) hx hb dL_quarter_492 (by decide) ?_
        obtain ⟨r146, hc145, h⟩ := cb1_e h
        refine z_i (r_runS F hG.1 (c_L_below l D ca g hc145) (kw381 F.kd) (kw382 F.kd) (kw0 F.kd) (kw383 F.kd) yd_L_below ⟨Nat.le_of_ble_eq_true rfl, Nat.le_of_ble_eq_true rfl⟩ rfl hl.1 rfl (Nat.le_of_ble_eq_true rfl) dL_quarter_493 ⟨(show ue ≤ 120 by omega), (show uf ≤ 2000 by omega)⟩) rfl rfl hG (fun H locs hG => ?_)
        obtain ⟨M154, ho148, h⟩ := cb1_e h
        have J149 : ∀ (H : Heap) (locs : List Loc) (ls : Array Slot), GL D ca g s 0 cA cB nc np aW aP aC M154 X H locs → lv_has ls 9 [(0, .ref (ca.2.2.2.1)), (1, .ref (g 40)), (6, .int z6), (7, .int x124)] → W p l e ({ frames := 9, cells := 120, slots := 2000, locals := 161 }) s m args below meth c H locs ue uf Q (F0 m 506 ls []) := by
          intro H locs ls hG hl
          obtain ⟨x155, ex155, h⟩ := mlet_e h
          refine lv_iinc (v := x155) (lv' := [(6, .int x155), (0, .ref (ca.2.2.2.1)), (1, .ref (g 40)), (7, .int x124)]) hx hb dL_quarter_506 hl (k := 2) rfl (by rw [ex155]; rfl) (by decide) rfl (fun ls hl => ?_)
          refine lv_goto (tgt := 395) hx hb dL_quarter_509 (by decide) ?_
          exact ih M154 x155 h _ _ _ hG (lv_sub hl [1, 2, 0] rfl)
        replace h := ho148
        refine lv_if_ne (tgt := 506) hx hb dL_quarter_496 (by decide) (fun c150 => ?_) (fun c150 => ?_)
        · have h := ite_f h c150
          obtain rfl := som1 h
          exact J149 H locs ls hG hl
        · have h := ite_t h c150
          refine lv_aload_n hx hb dL_quarter_499 rfl (lv_at hl 1 rfl) ?_
          refine lv_iload hx hb dL_quarter_500 (lv_at hl 2 rfl) ?_
          obtain ⟨⟨M153, r152⟩, hc151, h⟩ := nbd_n h
          have h := up2_e h
          refine z_i (r_runV F hG.1 (n_X5_torch l D ca g (show kd 40 = 5 from rfl) hc151) (kd_lt (show kd 40 = 5 from rfl) (by decide)) (gd5 (show kd 40 = 5 from rfl)) rfl (kw580 F.kd) (kw581 F.kd) (kw582 F.kd) (kw1 F.kd) (kw583 F.kd) yd_X5_torch ⟨Nat.le_of_ble_eq_true rfl, Nat.le_of_ble_eq_true rfl⟩ rfl hl.1 rfl (Nat.le_of_ble_eq_true rfl) dL_quarter_502 ⟨(show ue ≤ 120 by omega), (show uf ≤ 2000 by omega)⟩) rfl rfl hG (fun H locs hG => ?_)
          refine lv_pop hx hb dL_quarter_505 rfl ?_
          obtain rfl := som1 h
          exact J149 H locs ls hG hl
set_option maxHeartbeats 8000000 in
set_option maxRecDepth 100000 in
theorem w_Q0 {p : Program} {l : Launch} {e : Env} {s : State} {m : MethodId} {args : Array Value} {below : List Frame} {meth : Method} {c : Code} {Q : State → Prop} {D : va_G} {ca : vCA} {g : Nat → Nat} {fu : Nat} {cA cB : ClassId} {nc np aW aP aC ue uf : Nat} {M X : Mem} {out : Mem} (F : FX p m c cL_quarter 9 s D ca g RL) (hst : l.stackTraces = false) (hnc : nc ≤ 6) (hnp : np ≤ 3) (hE : ue + 50 ≤ 120) (hF : uf + 300 ≤ 2000) (h : m_Q0 fu (scr ca) nc np M X = some out)
    (K : ∀ (M1 : Mem) (H : Heap) (locs : List Loc) (ls : Array Slot), out = M1 → GL D ca g s 0 cA cB nc np aW aP aC M1 X H locs → lv_has ls 9 [(1, .ref (g 40))] → W p l e ({ frames := 9, cells := 120, slots := 2000, locals := 161 }) s m args below meth c H locs (ue + 50) (uf + 300) Q (F0 m 545 ls [])) :
    ∀ (H : Heap) (locs : List Loc) (ls : Array Slot), GL D ca g s 0 cA cB nc np aW aP aC M X H locs → lv_has ls 9 [(0, .ref (ca.2.2.2.1)), (1, .ref (g 40))] → W p l e ({ frames := 9, cells := 120, slots := 2000, locals := 161 }) s m args below meth c H locs ue uf Q (F0 m 8 ls []) := by
  have hx := F.1
  have hb := F.2.1
  intro H locs ls hG hl
  unfold m_Q0 at h
  refine lv_aload_n hx hb dL_quarter_8 rfl (lv_at hl 0 rfl) ?_
  refine lv_iconst (v := 0) hx hb dL_quarter_9 (by decide) ?_
  obtain ⟨r2, hc1, h⟩ := cb1_e h
  refine z_i (r_runS F hG.1 (c_L_cell l D ca g hc1) (kw385 F.kd) (kw386 F.kd) (kw0 F.kd) (kw387 F.kd) yd_L_cell ⟨Nat.le_of_ble_eq_true rfl, Nat.le_of_ble_eq_true rfl⟩ rfl hl.1 rfl (Nat.le_of_ble_eq_true rfl) dL_quarter_10 ⟨(show ue ≤ 120 by omega), (show uf ≤ 2000 by omega)⟩) rfl rfl hG (fun H locs hG => ?_)
  refine lv_bipush (v := 40) hx hb dL_quarter_13 (by decide) ?_
  obtain ⟨r4, hc3, h⟩ := cb1_e h
  refine z_i (r_runS F hG.1 (c_L_below l D ca g hc3) (kw381 F.kd) (kw382 F.kd) (kw0 F.kd) (kw383 F.kd) yd_L_below ⟨Nat.le_of_ble_eq_true rfl, Nat.le_of_ble_eq_true rfl⟩ rfl hl.1 rfl (Nat.le_of_ble_eq_true rfl) dL_quarter_15 ⟨(show ue ≤ 120 by omega), (show uf ≤ 2000 by omega)⟩) rfl rfl hG (fun H locs hG => ?_)
  refine lv_istore_n (lv' := [(2, .int r4), (0, .ref (ca.2.2.2.1)), (1, .ref (g 40))]) hx hb dL_quarter_18 rfl hl (by decide) rfl (fun ls hl => ?_)
  refine lv_iconst (v := 0) hx hb dL_quarter_19 (by decide) ?_
  refine lv_istore_n (lv' := [(3, .int 0), (2, .int r4), (0, .ref (ca.2.2.2.1)), (1, .ref (g 40))]) hx hb dL_quarter_20 rfl hl (by decide) rfl (fun ls hl => ?_)
  obtain ⟨o28, ho29, h⟩ := cb1_e h
  refine m_Q0_L21_w (out := o28) (ue := ue) (uf := uf) F hst hnc hnp (by omega) (by omega) ?_ _ _ _ ho29 _ _ _ hG (lv_sub hl [2, 3, 1, 0] rfl)
  · intro M30 H locs ls eo hG hl
    subst o28
    refine lv_aload_n hx hb dL_quarter_96 rfl (lv_at hl 0 rfl) ?_
    refine lv_iconst (v := 0) hx hb dL_quarter_97 (by decide) ?_
    obtain ⟨r32, hc31, h⟩ := cb1_e h
    refine z_i (r_runS F hG.1 (c_L_cell l D ca g hc31) (kw385 F.kd) (kw386 F.kd) (kw0 F.kd) (kw387 F.kd) yd_L_cell ⟨Nat.le_of_ble_eq_true rfl, Nat.le_of_ble_eq_true rfl⟩ rfl hl.1 rfl (Nat.le_of_ble_eq_true rfl) dL_quarter_98 ⟨(show ue ≤ 120 by omega), (show uf ≤ 2000 by omega)⟩) rfl rfl hG (fun H locs hG => ?_)
    refine lv_bipush (v := 6) hx hb dL_quarter_101 (by decide) ?_
    refine lv_ishr hx hb dL_quarter_103 ?_
    refine lv_bipush (v := 30) hx hb dL_quarter_104 (by decide) ?_
    obtain ⟨r34, hc33, h⟩ := cb1_e h
    refine z_i (r_runS F hG.1 (c_L_below l D ca g hc33) (kw381 F.kd) (kw382 F.kd) (kw0 F.kd) (kw383 F.kd) yd_L_below ⟨Nat.le_of_ble_eq_true rfl, Nat.le_of_ble_eq_true rfl⟩ rfl hl.1 rfl (Nat.le_of_ble_eq_true rfl) dL_quarter_106 ⟨(show ue ≤ 120 by omega), (show uf ≤ 2000 by omega)⟩) rfl rfl hG (fun H locs hG => ?_)
    refine lv_istore_n (lv' := [(3, .int r34), (0, .ref (ca.2.2.2.1)), (1, .ref (g 40))]) hx hb dL_quarter_109 rfl hl (by decide) rfl (fun ls hl => ?_)
    refine lv_iconst (v := 0) hx hb dL_quarter_110 (by decide) ?_
    refine lv_istore (lv' := [(4, .int 0), (3, .int r34), (0, .ref (ca.2.2.2.1)), (1, .ref (g 40))]) hx hb dL_quarter_111 hl (by decide) rfl (fun ls hl => ?_)
    obtain ⟨o60, ho61, h⟩ := cb1_e h
    refine m_Q0_L113_w (out := o60) (ue := ue) (uf := uf) F hst hnc hnp (by omega) (by omega) ?_ _ _ _ ho61 _ _ _ hG (lv_sub hl [2, 3, 1, 0] rfl)
    · intro M62 H locs ls eo hG hl
      subst o60
      refine lv_aload_n hx hb dL_quarter_202 rfl (lv_at hl 0 rfl) ?_
      refine lv_bipush (v := 7) hx hb dL_quarter_203 (by decide) ?_
      obtain ⟨r64, hc63, h⟩ := cb1_e h
      refine z_i (r_runS F hG.1 (c_L_cell l D ca g hc63) (kw385 F.kd) (kw386 F.kd) (kw0 F.kd) (kw387 F.kd) yd_L_cell ⟨Nat.le_of_ble_eq_true rfl, Nat.le_of_ble_eq_true rfl⟩ rfl hl.1 rfl (Nat.le_of_ble_eq_true rfl) dL_quarter_205 ⟨(show ue ≤ 120 by omega), (show uf ≤ 2000 by omega)⟩) rfl rfl hG (fun H locs hG => ?_)
      refine lv_bipush (v := 7) hx hb dL_quarter_208 (by decide) ?_
      obtain ⟨r66, hc65, h⟩ := cb1_e h
      refine z_i (r_runS F hG.1 (c_L_below l D ca g hc65) (kw381 F.kd) (kw382 F.kd) (kw0 F.kd) (kw383 F.kd) yd_L_below ⟨Nat.le_of_ble_eq_true rfl, Nat.le_of_ble_eq_true rfl⟩ rfl hl.1 rfl (Nat.le_of_ble_eq_true rfl) dL_quarter_210 ⟨(show ue ≤ 120 by omega), (show uf ≤ 2000 by omega)⟩) rfl rfl hG (fun H locs hG => ?_)
      refine lv_istore (lv' := [(4, .int r66), (0, .ref (ca.2.2.2.1)), (1, .ref (g 40))]) hx hb dL_quarter_213 hl (by decide) rfl (fun ls hl => ?_)
      refine lv_iconst (v := 0) hx hb dL_quarter_215 (by decide) ?_
      refine lv_istore (lv' := [(5, .int 0), (4, .int r66), (0, .ref (ca.2.2.2.1)), (1, .ref (g 40))]) hx hb dL_quarter_216 hl (by decide) rfl (fun ls hl => ?_)
      obtain ⟨o86, ho87, h⟩ := cb1_e h
      refine W.widen (k := ue + (20 - 20) * 2) (n := uf + (20 - 20) * 12) (by omega) (by omega) (m_Q0_L218_w (out := o86) (ue := ue) (uf := uf) F hst hnc hnp (by omega) (by omega) ?_ _ (Nat.le_refl _) _ _ ho87 _ _ _ hG (lv_sub hl [2, 3, 1, 0] rfl))
      · intro M88 H locs ls eo hG hl
        subst o86
        obtain ⟨ne89, hne89⟩ : ∃ z, z = ue + 40 := ⟨_, rfl⟩
        obtain ⟨nf90, hnf90⟩ : ∃ z, z = uf + 240 := ⟨_, rfl⟩
        rw [← hne89, ← hnf90]
        refine lv_aload_n hx hb dL_quarter_295 rfl (lv_at hl 0 rfl) ?_
        refine lv_bipush (v := 7) hx hb dL_quarter_296 (by decide) ?_
        obtain ⟨r92, hc91, h⟩ := cb1_e h
        refine z_i (r_runS F hG.1 (c_L_cell l D ca g hc91) (kw385 F.kd) (kw386 F.kd) (kw0 F.kd) (kw387 F.kd) yd_L_cell ⟨Nat.le_of_ble_eq_true rfl, Nat.le_of_ble_eq_true rfl⟩ rfl hl.1 rfl (Nat.le_of_ble_eq_true rfl) dL_quarter_298 ⟨(show ne89 ≤ 120 by omega), (show nf90 ≤ 2000 by omega)⟩) rfl rfl hG (fun H locs hG => ?_)
        refine lv_iconst (v := 4) hx hb dL_quarter_301 (by decide) ?_
        refine lv_ishr hx hb dL_quarter_302 ?_
        refine lv_iconst (v := 4) hx hb dL_quarter_303 (by decide) ?_
        obtain ⟨r94, hc93, h⟩ := cb1_e h
        refine z_i (r_runS F hG.1 (c_L_below l D ca g hc93) (kw381 F.kd) (kw382 F.kd) (kw0 F.kd) (kw383 F.kd) yd_L_below ⟨Nat.le_of_ble_eq_true rfl, Nat.le_of_ble_eq_true rfl⟩ rfl hl.1 rfl (Nat.le_of_ble_eq_true rfl) dL_quarter_304 ⟨(show ne89 ≤ 120 by omega), (show nf90 ≤ 2000 by omega)⟩) rfl rfl hG (fun H locs hG => ?_)
        refine lv_istore (lv' := [(5, .int r94), (0, .ref (ca.2.2.2.1)), (1, .ref (g 40))]) hx hb dL_quarter_307 hl (by decide) rfl (fun ls hl => ?_)
        refine lv_iconst (v := 0) hx hb dL_quarter_309 (by decide) ?_
        refine lv_istore (lv' := [(6, .int 0), (5, .int r94), (0, .ref (ca.2.2.2.1)), (1, .ref (g 40))]) hx hb dL_quarter_310 hl (by decide) rfl (fun ls hl => ?_)
        obtain ⟨o114, ho115, h⟩ := cb1_e h
        refine W.widen (k := ne89 + (5 - 5) * 2) (n := nf90 + (5 - 5) * 12) (by omega) (by omega) (m_Q0_L312_w (out := o114) (ue := ne89) (uf := nf90) F hst hnc hnp (by omega) (by omega) ?_ _ (Nat.le_refl _) _ _ ho115 _ _ _ hG (lv_sub hl [2, 3, 1, 0] rfl))
        · intro M116 H locs ls eo hG hl
          subst o114
          obtain ⟨ne117, hne117⟩ : ∃ z, z = ne89 + 10 := ⟨_, rfl⟩
          obtain ⟨nf118, hnf118⟩ : ∃ z, z = nf90 + 60 := ⟨_, rfl⟩
          rw [← hne117, ← hnf118]
          refine lv_iconst (v := 0) hx hb dL_quarter_392 (by decide) ?_
          refine lv_istore (lv' := [(6, .int 0), (0, .ref (ca.2.2.2.1)), (1, .ref (g 40))]) hx hb dL_quarter_393 hl (by decide) rfl (fun ls hl => ?_)
          obtain ⟨o156, ho157, h⟩ := cb1_e h
          refine m_Q0_L395_w (out := o156) (ue := ne117) (uf := nf118) F hst hnc hnp (by omega) (by omega) ?_ _ _ _ ho157 _ _ _ hG (lv_sub hl [1, 2, 0] rfl)
          · intro M158 H locs ls eo hG hl
            subst o156
            refine lv_aload_n hx hb dL_quarter_512 rfl (lv_at hl 0 rfl) ?_
            refine lv_bipush (v := 15) hx hb dL_quarter_513 (by decide) ?_
            obtain ⟨r160, hc159, h⟩ := cb1_e h
            refine z_i (r_runS F hG.1 (c_L_cell l D ca g hc159) (kw385 F.kd) (kw386 F.kd) (kw0 F.kd) (kw387 F.kd) yd_L_cell ⟨Nat.le_of_ble_eq_true rfl, Nat.le_of_ble_eq_true rfl⟩ rfl hl.1 rfl (Nat.le_of_ble_eq_true rfl) dL_quarter_515 ⟨(show ne117 ≤ 120 by omega), (show nf118 ≤ 2000 by omega)⟩) rfl rfl hG (fun H locs hG => ?_)
            refine lv_iconst (v := 2) hx hb dL_quarter_518 (by decide) ?_
            obtain ⟨r162, hc161, h⟩ := cb1_e h
            refine z_i (r_runS F hG.1 (c_L_below l D ca g hc161) (kw381 F.kd) (kw382 F.kd) (kw0 F.kd) (kw383 F.kd) yd_L_below ⟨Nat.le_of_ble_eq_true rfl, Nat.le_of_ble_eq_true rfl⟩ rfl hl.1 rfl (Nat.le_of_ble_eq_true rfl) dL_quarter_519 ⟨(show ne117 ≤ 120 by omega), (show nf118 ≤ 2000 by omega)⟩) rfl rfl hG (fun H locs hG => ?_)
            refine lv_if_ne (tgt := 545) hx hb dL_quarter_522 (by decide) (fun c163 => ?_) (fun c163 => ?_)
            · have h := ite_f h c163
              refine W.widen (k := ue + 50) (n := uf + 300) (by omega) (by omega) ?_
              exact K _ _ _ _ (som1 h).symm hG (lv_sub hl [1] rfl)
            · have h := ite_t h c163
              refine lv_aload_n hx hb dL_quarter_525 rfl (lv_at hl 1 rfl) ?_
              refine lv_iconst (v := 1) hx hb dL_quarter_526 (by decide) ?_
              refine lv_aload_n hx hb dL_quarter_527 rfl (lv_at hl 0 rfl) ?_
              refine lv_bipush (v := 15) hx hb dL_quarter_528 (by decide) ?_
              obtain ⟨r165, hc164, h⟩ := cb1_e h
              refine z_i (r_runS F hG.1 (c_L_cell l D ca g hc164) (kw385 F.kd) (kw386 F.kd) (kw0 F.kd) (kw387 F.kd) yd_L_cell ⟨Nat.le_of_ble_eq_true rfl, Nat.le_of_ble_eq_true rfl⟩ rfl hl.1 rfl (Nat.le_of_ble_eq_true rfl) dL_quarter_530 ⟨(show ne117 ≤ 120 by omega), (show nf118 ≤ 2000 by omega)⟩) rfl rfl hG (fun H locs hG => ?_)
              refine lv_iconst (v := 2) hx hb dL_quarter_533 (by decide) ?_
              refine lv_ishr hx hb dL_quarter_534 ?_
              refine lv_bipush (v := 6) hx hb dL_quarter_535 (by decide) ?_
              obtain ⟨r167, hc166, h⟩ := cb1_e h
              refine z_i (r_runS F hG.1 (c_L_below l D ca g hc166) (kw381 F.kd) (kw382 F.kd) (kw0 F.kd) (kw383 F.kd) yd_L_below ⟨Nat.le_of_ble_eq_true rfl, Nat.le_of_ble_eq_true rfl⟩ rfl hl.1 rfl (Nat.le_of_ble_eq_true rfl) dL_quarter_537 ⟨(show ne117 ≤ 120 by omega), (show nf118 ≤ 2000 by omega)⟩) rfl rfl hG (fun H locs hG => ?_)
              refine lv_iadd hx hb dL_quarter_540 ?_
              obtain ⟨⟨M170, r169⟩, hc168, h⟩ := nbd_n h
              have h := up2_e h
              refine z_i (r_runV F hG.1 (n_X5_pass l D ca g (show kd 40 = 5 from rfl) hc168) (kd_lt (show kd 40 = 5 from rfl) (by decide)) (gd5 (show kd 40 = 5 from rfl)) rfl (kw243 F.kd) (kw244 F.kd) (kw245 F.kd) (kw1 F.kd) (kw246 F.kd) yd_X5_pass ⟨Nat.le_of_ble_eq_true rfl, Nat.le_of_ble_eq_true rfl⟩ rfl hl.1 rfl (Nat.le_of_ble_eq_true rfl) dL_quarter_541 ⟨(show ne117 ≤ 120 by omega), (show nf118 ≤ 2000 by omega)⟩) rfl rfl hG (fun H locs hG => ?_)
              refine lv_pop hx hb dL_quarter_544 rfl ?_
              refine W.widen (k := ue + 50) (n := uf + 300) (by omega) (by omega) ?_
              exact K _ _ _ _ (som1 h).symm hG (lv_sub hl [1] rfl)

set_option maxHeartbeats 4000000 in
set_option maxRecDepth 100000 in
theorem m_X6_sees_L113_w {p : Program} {l : Launch} {e : Env} {s : State} {m : MethodId} {args : Array Value} {below : List Frame} {meth : Method} {c : Code} {Q : State → Prop} {D : va_G} {ca : vCA} {g : Nat → Nat} {fu : Nat} {M : Mem} {q0 : Nat} {y1 : Int32} {y5 : Int32} {y6 : Int32} {out : (Unit) ⊕ (Unit)} (F : FX p m c cX6_sees 8 s D ca g RX6) (hq0 : kd q0 = 6)
    (K0 : ∀  (H : Heap) (locs : List Loc) (ls : Array Slot), out = (Sum.inl ()) → GW D ca g s M H locs → lv_has ls 8 [] → W p l e ({ frames := 1, cells := 0, slots := 0, locals := 21 }) s m args below meth c H locs 0 0 Q (F0 m 148 ls []))
    (K1 : ∀  (H : Heap) (locs : List Loc) (ls : Array Slot), out = (Sum.inr ()) → GW D ca g s M H locs → lv_has ls 8 [] → W p l e ({ frames := 1, cells := 0, slots := 0, locals := 21 }) s m args below meth c H locs 0 0 Q (F0 m 140 ls [])) :
    ∀ (n : Nat) (z7 : Int32), m_X6_sees_L113 fu M q0 y1 y5 y6 n z7 = some out → ∀ (H : Heap) (locs : List Loc) (ls : Array Slot), GW D ca g s M H locs → lv_has ls 8 [(0, .ref (g q0)), (1, .int y1), (5, .int y5), (6, .int y6), (7, .int z7)] → W p l e ({ frames := 1, cells := 0, slots := 0, locals := 21 }) s m args below meth c H locs 0 0 Q (F0 m 113 ls []) := by
  have hx := F.1
  have hb := F.2.1
  intro n
  induction n with
  | zero =>
    intro z7 h
    exact absurd h (by simp [m_X6_sees_L113])
  | succ n ih =>
    intro z7 h H locs ls hG hl
    rw [m_X6_sees_L113] at h
    refine lv_iload hx hb dX6_sees_113 (lv_at hl 4 rfl) ?_
    refine lv_iload hx hb dX6_sees_115 (lv_at hl 2 rfl) ?_
    refine lv_icmp_ge (tgt := 148) hx hb dX6_sees_117 (by decide) (fun c32 => ?_) (fun c32 => ?_)
    · have h := ite_t h c32
      exact K0 _ _ _ (som1 h).symm hG (lv_sub hl [] rfl)
    · have h := ite_f h c32
      refine lv_aload_n hx hb dX6_sees_120 rfl (lv_at hl 0 rfl) ?_
      have hk33 := kt_s1 hq0
      refine xg6 F hG hq0 1 (by decide) (kw642 F.kd) (v := .ref (g (q0 + 1))) rfl dX6_sees_121 ?_
      refine lv_aload_n hx hb dX6_sees_124 rfl (lv_at hl 0 rfl) ?_
      have hk34 := kt_s8 hq0
      refine xg6 F hG hq0 8 (by decide) (kw656 F.kd) (v := .ref (g (q0 + 8))) rfl dX6_sees_125 ?_
      refine lv_iload_n hx hb dX6_sees_128 rfl (lv_at hl 1 rfl) ?_
      obtain ⟨hi35, h⟩ := chk_e h
      refine r_ald F hG hk34 hi35 dX6_sees_129 ?_
      refine lv_iload hx hb dX6_sees_130 (lv_at hl 4 rfl) ?_
      refine lv_iload hx hb dX6_sees_132 (lv_at hl 3 rfl) ?_
      refine lv_imul hx hb dX6_sees_134 ?_
      refine lv_iadd hx hb dX6_sees_135 ?_
      obtain ⟨hi36, h⟩ := chk_e h
      refine r_ald F hG hk33 hi36 dX6_sees_136 ?_
      refine lv_if_eq (tgt := 142) hx hb dX6_sees_137 (by decide) (fun c37 => ?_) (fun c37 => ?_)
      · have h := ite_t h c37
        obtain ⟨x38, ex38, h⟩ := mlet_e h
        refine lv_iinc (v := x38) (lv' := [(7, .int x38), (0, .ref (g q0)), (1, .int y1), (5, .int y5), (6, .int y6)]) hx hb dX6_sees_142 hl (k := 4) rfl (by rw [ex38]; rfl) (by decide) rfl (fun ls hl => ?_)
        refine lv_goto (tgt := 113) hx hb dX6_sees_145 (by decide) ?_
        exact ih x38 h _ _ _ hG (lv_sub hl [1, 2, 3, 4, 0] rfl)
      · have h := ite_f h c37
        exact K1 _ _ _ (som1 h).symm hG (lv_sub hl [] rfl)
set_option maxHeartbeats 4000000 in
set_option maxRecDepth 100000 in
theorem c_X6_sees (l : Launch) (D : va_G) (ca : vCA) (g : Nat → Nat) {fu : Nat} {M : Mem} {a0 : Nat} {x1 : Int32} {x2 : Int32} {r : Int32} (ha0 : kd a0 = 6) (h : m_X6_sees fu M a0 x1 x2 = some r) : cM l yX6_sees cX6_sees 8 (some .boolean) { frames := 1, cells := 0, slots := 0, locals := 21 } D ca g M [.ref (g a0), .int x1, .int x2] (fun sz => cQi D ca g sz M r) := by
  refine mk_Met (by decide) (Nat.le_of_ble_eq_true rfl) ?_
  intro p e s m below meth c F hr hlk hnm hG ls hl
  have hx := F.1
  have hb := F.2.1
  replace hl : lv_has ls 8 [(0, .ref (g a0)), (1, .int x1), (2, .int x2)] := hl
  unfold m_X6_sees at h
  refine lv_aload_n hx hb dX6_sees_0 rfl (lv_at hl 0 rfl) ?_
  have hk4 := kt_s3 ha0
  refine xg6 F hG ha0 3 (by decide) (kw646 F.kd) (v := .ref (g (a0 + 3))) rfl dX6_sees_1 ?_
  refine lv_iload_n hx hb dX6_sees_4 rfl (lv_at hl 2 rfl) ?_
  obtain ⟨hi5, h⟩ := chk_e h
  refine r_ald F hG hk4 hi5 dX6_sees_5 ?_
  refine lv_if_ne (tgt := 11) hx hb dX6_sees_6 (by decide) (fun c6 => ?_) (fun c6 => ?_)
  · have h := ite_f h c6
    refine lv_aload_n hx hb dX6_sees_11 rfl (lv_at hl 0 rfl) ?_
    have hk7 := kt_s2 ha0
    refine xg6 F hG ha0 2 (by decide) (kw644 F.kd) (v := .ref (g (a0 + 2))) rfl dX6_sees_12 ?_
    refine lv_iload_n hx hb dX6_sees_15 rfl (lv_at hl 2 rfl) ?_
    obtain ⟨hi8, h⟩ := chk_e h
    refine r_ald F hG hk7 hi8 dX6_sees_16 ?_
    refine lv_bipush (v := 12) hx hb dX6_sees_17 (by decide) ?_
    obtain ⟨x9, ex9, h⟩ := mlet_e h
    rw [← ex9]
    refine lv_irem hx hb dX6_sees_19 (by decide) ?_
    refine lv_aload_n hx hb dX6_sees_20 rfl (lv_at hl 0 rfl) ?_
    have hk10 := kt_s8 ha0
    refine xg6 F hG ha0 8 (by decide) (kw656 F.kd) (v := .ref (g (a0 + 8))) rfl dX6_sees_21 ?_
    refine lv_iload_n hx hb dX6_sees_24 rfl (lv_at hl 1 rfl) ?_
    obtain ⟨hi11, h⟩ := chk_e h
    refine r_ald F hG hk10 hi11 dX6_sees_25 ?_
    refine lv_bipush (v := 12) hx hb dX6_sees_26 (by decide) ?_
    obtain ⟨x12, ex12, h⟩ := mlet_e h
    rw [← ex12]
    refine lv_irem hx hb dX6_sees_28 (by decide) ?_
    refine lv_isub hx hb dX6_sees_29 ?_
    refine lv_topi (fun x13 ex13 => ?_)
    have h := mlet_n h ex13
    refine lv_istore_n (lv' := [(3, .int x13), (0, .ref (g a0)), (1, .int x1), (2, .int x2)]) hx hb dX6_sees_30 rfl hl (by decide) rfl (fun ls hl => ?_)
    refine lv_aload_n hx hb dX6_sees_31 rfl (lv_at hl 1 rfl) ?_
    have hk14 := kt_s2 ha0
    refine xg6 F hG ha0 2 (by decide) (kw644 F.kd) (v := .ref (g (a0 + 2))) rfl dX6_sees_32 ?_
    refine lv_iload_n hx hb dX6_sees_35 rfl (lv_at hl 3 rfl) ?_
    obtain ⟨hi15, h⟩ := chk_e h
    refine r_ald F hG hk14 hi15 dX6_sees_36 ?_
    refine lv_bipush (v := 12) hx hb dX6_sees_37 (by decide) ?_
    refine lv_idiv hx hb dX6_sees_39 (by decide) ?_
    refine lv_aload_n hx hb dX6_sees_40 rfl (lv_at hl 1 rfl) ?_
    have hk16 := kt_s8 ha0
    refine xg6 F hG ha0 8 (by decide) (kw656 F.kd) (v := .ref (g (a0 + 8))) rfl dX6_sees_41 ?_
    refine lv_iload_n hx hb dX6_sees_44 rfl (lv_at hl 2 rfl) ?_
    obtain ⟨hi17, h⟩ := chk_e h
    refine r_ald F hG hk16 hi17 dX6_sees_45 ?_
    refine lv_bipush (v := 12) hx hb dX6_sees_46 (by decide) ?_
    refine lv_idiv hx hb dX6_sees_48 (by decide) ?_
    refine lv_isub hx hb dX6_sees_49 ?_
    refine lv_topi (fun x18 ex18 => ?_)
    have h := mlet_n h ex18
    refine lv_istore (lv' := [(4, .int x18), (3, .int x13), (0, .ref (g a0)), (1, .int x1), (2, .int x2)]) hx hb dX6_sees_50 hl (by decide) rfl (fun ls hl => ?_)
    refine lv_iload_n hx hb dX6_sees_52 rfl (lv_at hl 1 rfl) ?_
    refine va_mabs hx hb (F.2.2.1.trans hl.1.symm) F.2.2.2.1 (kw783 F.kd) (kw265 F.kd) (kw15 F.kd) (kw266 F.kd) (Nat.le_of_ble_eq_true rfl) (Nat.le_of_ble_eq_true rfl) (Nat.zero_le _) (Nat.zero_le _) dX6_sees_53 ?_
    refine lv_topi (fun x19 ex19 => ?_)
    have h := mlet_n h ex19
    refine lv_iload hx hb dX6_sees_56 (lv_at hl 0 rfl) ?_
    refine va_mabs hx hb (F.2.2.1.trans hl.1.symm) F.2.2.2.1 (kw783 F.kd) (kw265 F.kd) (kw15 F.kd) (kw266 F.kd) (Nat.le_of_ble_eq_true rfl) (Nat.le_of_ble_eq_true rfl) (Nat.zero_le _) (Nat.zero_le _) dX6_sees_58 ?_
    refine lv_topi (fun x20 ex20 => ?_)
    have h := mlet_n h ex20
    refine lv_iadd hx hb dX6_sees_61 ?_
    refine lv_topi (fun x21 ex21 => ?_)
    have h := mlet_n h ex21
    refine lv_istore (lv' := [(5, .int x21), (4, .int x18), (3, .int x13), (0, .ref (g a0)), (1, .int x1), (2, .int x2)]) hx hb dX6_sees_62 hl (by decide) rfl (fun ls hl => ?_)
    refine lv_iload_n hx hb dX6_sees_64 rfl (lv_at hl 2 rfl) ?_
    refine lv_if_eq (tgt := 73) hx hb dX6_sees_65 (by decide) (fun c22 => ?_) (fun c22 => ?_)
    · have h := ite_t h c22
      refine lv_iload hx hb dX6_sees_73 (lv_at hl 0 rfl) ?_
      refine lv_aload_n hx hb dX6_sees_75 rfl (lv_at hl 3 rfl) ?_
      have hk23 := kt_s4 ha0
      refine xg6 F hG ha0 4 (by decide) (kw648 F.kd) (v := .ref (g (a0 + 4))) rfl dX6_sees_76 ?_
      refine lv_iload_n hx hb dX6_sees_79 rfl (lv_at hl 5 rfl) ?_
      obtain ⟨hi24, h⟩ := chk_e h
      refine r_ald F hG hk23 hi24 dX6_sees_80 ?_
      refine lv_iconst (v := 1) hx hb dX6_sees_81 (by decide) ?_
      refine lv_icmp_ne (tgt := 89) hx hb dX6_sees_82 (by decide) (fun c25 => ?_) (fun c25 => ?_)
      · have h := ite_f h c25
        refine lv_iconst (v := 1) hx hb dX6_sees_89 (by decide) ?_
        refine lv_icmp_le (tgt := 95) hx hb dX6_sees_90 (by decide) (fun c26 => ?_) (fun c26 => ?_)
        · have h := ite_t h c26
          refine lv_iload_n hx hb dX6_sees_95 rfl (lv_at hl 2 rfl) ?_
          obtain ⟨r28, hc27, h⟩ := cb1_e h
          refine k_i (r_runS F hG (c_J6_signum_0f7a4 l D ca g hc27) (kw784 F.kd) (kw785 F.kd) (kw16 F.kd) (kw786 F.kd) yd_J6_signum_0f7a4 ⟨Nat.le_of_ble_eq_true rfl, Nat.le_of_ble_eq_true rfl⟩ rfl hl.1 rfl (Nat.le_of_ble_eq_true rfl) dX6_sees_96 ⟨Nat.le_of_ble_eq_true rfl, Nat.le_of_ble_eq_true rfl⟩) hG (fun H locs hG => ?_)
          refine lv_bipush (v := 12) hx hb dX6_sees_99 (by decide) ?_
          refine lv_iload hx hb dX6_sees_101 (lv_at hl 1 rfl) ?_
          obtain ⟨r30, hc29, h⟩ := cb1_e h
          refine k_i (r_runS F hG (c_J6_signum_0f7a4 l D ca g hc29) (kw784 F.kd) (kw785 F.kd) (kw16 F.kd) (kw786 F.kd) yd_J6_signum_0f7a4 ⟨Nat.le_of_ble_eq_true rfl, Nat.le_of_ble_eq_true rfl⟩ rfl hl.1 rfl (Nat.le_of_ble_eq_true rfl) dX6_sees_103 ⟨Nat.le_of_ble_eq_true rfl, Nat.le_of_ble_eq_true rfl⟩) hG (fun H locs hG => ?_)
          refine lv_imul hx hb dX6_sees_106 ?_
          refine lv_iadd hx hb dX6_sees_107 ?_
          refine lv_topi (fun x31 ex31 => ?_)
          have h := mlet_n h ex31
          refine lv_istore (lv' := [(6, .int x31), (5, .int x21), (4, .int x18), (3, .int x13), (0, .ref (g a0)), (1, .int x1), (2, .int x2)]) hx hb dX6_sees_108 hl (by decide) rfl (fun ls hl => ?_)
          refine lv_iconst (v := 1) hx hb dX6_sees_110 (by decide) ?_
          refine lv_istore (lv' := [(7, .int 1), (6, .int x31), (5, .int x21), (4, .int x18), (3, .int x13), (0, .ref (g a0)), (1, .int x1), (2, .int x2)]) hx hb dX6_sees_111 hl (by decide) rfl (fun ls hl => ?_)
          obtain ⟨o39, ho40, h⟩ := cb1_e h
          refine m_X6_sees_L113_w (out := o39) F ha0 ?_ ?_ _ _ ho40 _ _ _ hG (lv_sub hl [5, 6, 2, 1, 0] rfl)
          · intro H locs ls eo hG hl
            subst o39
            have h := se_l h
            refine lv_iconst (v := 1) hx hb dX6_sees_148 (by decide) ?_
            obtain rfl := som1 h
            exact end_z F hr hlk (by decide) hG dX6_sees_149
          · intro H locs ls eo hG hl
            subst o39
            have h := se_r h
            refine lv_iconst (v := 0) hx hb dX6_sees_140 (by decide) ?_
            obtain rfl := som1 h
            exact end_z F hr hlk (by decide) hG dX6_sees_141
        · have h := ite_f h c26
          refine lv_iconst (v := 0) hx hb dX6_sees_93 (by decide) ?_
          obtain rfl := som1 h
          exact end_z F hr hlk (by decide) hG dX6_sees_94
      · have h := ite_t h c25
        refine lv_iconst (v := 4) hx hb dX6_sees_85 (by decide) ?_
        refine lv_goto (tgt := 90) hx hb dX6_sees_86 (by decide) ?_
        refine lv_icmp_le (tgt := 95) hx hb dX6_sees_90 (by decide) (fun c41 => ?_) (fun c41 => ?_)
        · have h := ite_t h c41
          refine lv_iload_n hx hb dX6_sees_95 rfl (lv_at hl 2 rfl) ?_
          obtain ⟨r43, hc42, h⟩ := cb1_e h
          refine k_i (r_runS F hG (c_J6_signum_0f7a4 l D ca g hc42) (kw784 F.kd) (kw785 F.kd) (kw16 F.kd) (kw786 F.kd) yd_J6_signum_0f7a4 ⟨Nat.le_of_ble_eq_true rfl, Nat.le_of_ble_eq_true rfl⟩ rfl hl.1 rfl (Nat.le_of_ble_eq_true rfl) dX6_sees_96 ⟨Nat.le_of_ble_eq_true rfl, Nat.le_of_ble_eq_true rfl⟩) hG (fun H locs hG => ?_)
          refine lv_bipush (v := 12) hx hb dX6_sees_99 (by decide) ?_
          refine lv_iload hx hb dX6_sees_101 (lv_at hl 1 rfl) ?_
          obtain ⟨r45, hc44, h⟩ := cb1_e h
          refine k_i (r_runS F hG (c_J6_signum_0f7a4 l D ca g hc44) (kw784 F.kd) (kw785 F.kd) (kw16 F.kd) (kw786 F.kd) yd_J6_signum_0f7a4 ⟨Nat.le_of_ble_eq_true rfl, Nat.le_of_ble_eq_true rfl⟩ rfl hl.1 rfl (Nat.le_of_ble_eq_true rfl) dX6_sees_103 ⟨Nat.le_of_ble_eq_true rfl, Nat.le_of_ble_eq_true rfl⟩) hG (fun H locs hG => ?_)
          refine lv_imul hx hb dX6_sees_106 ?_
          refine lv_iadd hx hb dX6_sees_107 ?_
          refine lv_topi (fun x46 ex46 => ?_)
          have h := mlet_n h ex46
          refine lv_istore (lv' := [(6, .int x46), (5, .int x21), (4, .int x18), (3, .int x13), (0, .ref (g a0)), (1, .int x1), (2, .int x2)]) hx hb dX6_sees_108 hl (by decide) rfl (fun ls hl => ?_)
          refine lv_iconst (v := 1) hx hb dX6_sees_110 (by decide) ?_
          refine lv_istore (lv' := [(7, .int 1), (6, .int x46), (5, .int x21), (4, .int x18), (3, .int x13), (0, .ref (g a0)), (1, .int x1), (2, .int x2)]) hx hb dX6_sees_111 hl (by decide) rfl (fun ls hl => ?_)
          obtain ⟨o47, ho48, h⟩ := cb1_e h
          refine m_X6_sees_L113_w (out := o47) F ha0 ?_ ?_ _ _ ho48 _ _ _ hG (lv_sub hl [5, 6, 2, 1, 0] rfl)
          · intro H locs ls eo hG hl
            subst o47
            have h := se_l h
            refine lv_iconst (v := 1) hx hb dX6_sees_148 (by decide) ?_
            obtain rfl := som1 h
            exact end_z F hr hlk (by decide) hG dX6_sees_149
          · intro H locs ls eo hG hl
            subst o47
            have h := se_r h
            refine lv_iconst (v := 0) hx hb dX6_sees_140 (by decide) ?_
            obtain rfl := som1 h
            exact end_z F hr hlk (by decide) hG dX6_sees_141
        · have h := ite_f h c41
          refine lv_iconst (v := 0) hx hb dX6_sees_93 (by decide) ?_
          obtain rfl := som1 h
          exact end_z F hr hlk (by decide) hG dX6_sees_94
    · have h := ite_f h c22
      refine lv_iload hx hb dX6_sees_68 (lv_at hl 1 rfl) ?_
      refine lv_if_ne (tgt := 93) hx hb dX6_sees_70 (by decide) (fun c49 => ?_) (fun c49 => ?_)
      · have h := ite_f h c49
        refine lv_iconst (v := 0) hx hb dX6_sees_93 (by decide) ?_
        obtain rfl := som1 h
        exact end_z F hr hlk (by decide) hG dX6_sees_94
      · have h := ite_t h c49
        refine lv_iload hx hb dX6_sees_73 (lv_at hl 0 rfl) ?_
        refine lv_aload_n hx hb dX6_sees_75 rfl (lv_at hl 3 rfl) ?_
        have hk50 := kt_s4 ha0
        refine xg6 F hG ha0 4 (by decide) (kw648 F.kd) (v := .ref (g (a0 + 4))) rfl dX6_sees_76 ?_
        refine lv_iload_n hx hb dX6_sees_79 rfl (lv_at hl 5 rfl) ?_
        obtain ⟨hi51, h⟩ := chk_e h
        refine r_ald F hG hk50 hi51 dX6_sees_80 ?_
        refine lv_iconst (v := 1) hx hb dX6_sees_81 (by decide) ?_
        refine lv_icmp_ne (tgt := 89) hx hb dX6_sees_82 (by decide) (fun c52 => ?_) (fun c52 => ?_)
        · have h := ite_f h c52
          refine lv_iconst (v := 1) hx hb dX6_sees_89 (by decide) ?_
          refine lv_icmp_le (tgt := 95) hx hb dX6_sees_90 (by decide) (fun c53 => ?_) (fun c53 => ?_)
          · have h := ite_t h c53
            refine lv_iload_n hx hb dX6_sees_95 rfl (lv_at hl 2 rfl) ?_
            obtain ⟨r55, hc54, h⟩ := cb1_e h
            refine k_i (r_runS F hG (c_J6_signum_0f7a4 l D ca g hc54) (kw784 F.kd) (kw785 F.kd) (kw16 F.kd) (kw786 F.kd) yd_J6_signum_0f7a4 ⟨Nat.le_of_ble_eq_true rfl, Nat.le_of_ble_eq_true rfl⟩ rfl hl.1 rfl (Nat.le_of_ble_eq_true rfl) dX6_sees_96 ⟨Nat.le_of_ble_eq_true rfl, Nat.le_of_ble_eq_true rfl⟩) hG (fun H locs hG => ?_)
            refine lv_bipush (v := 12) hx hb dX6_sees_99 (by decide) ?_
            refine lv_iload hx hb dX6_sees_101 (lv_at hl 1 rfl) ?_
            obtain ⟨r57, hc56, h⟩ := cb1_e h
            refine k_i (r_runS F hG (c_J6_signum_0f7a4 l D ca g hc56) (kw784 F.kd) (kw785 F.kd) (kw16 F.kd) (kw786 F.kd) yd_J6_signum_0f7a4 ⟨Nat.le_of_ble_eq_true rfl, Nat.le_of_ble_eq_true rfl⟩ rfl hl.1 rfl (Nat.le_of_ble_eq_true rfl) dX6_sees_103 ⟨Nat.le_of_ble_eq_true rfl, Nat.le_of_ble_eq_true rfl⟩) hG (fun H locs hG => ?_)
            refine lv_imul hx hb dX6_sees_106 ?_
            refine lv_iadd hx hb dX6_sees_107 ?_
            refine lv_topi (fun x58 ex58 => ?_)
            have h := mlet_n h ex58
            refine lv_istore (lv' := [(6, .int x58), (5, .int x21), (4, .int x18), (3, .int x13), (0, .ref (g a0)), (1, .int x1), (2, .int x2)]) hx hb dX6_sees_108 hl (by decide) rfl (fun ls hl => ?_)
            refine lv_iconst (v := 1) hx hb dX6_sees_110 (by decide) ?_
            refine lv_istore (lv' := [(7, .int 1), (6, .int x58), (5, .int x21), (4, .int x18), (3, .int x13), (0, .ref (g a0)), (1, .int x1), (2, .int x2)]) hx hb dX6_sees_111 hl (by decide) rfl (fun ls hl => ?_)
            obtain ⟨o59, ho60, h⟩ := cb1_e h
            refine m_X6_sees_L113_w (out := o59) F ha0 ?_ ?_ _ _ ho60 _ _ _ hG (lv_sub hl [5, 6, 2, 1, 0] rfl)
            · intro H locs ls eo hG hl
              subst o59
              have h := se_l h
              refine lv_iconst (v := 1) hx hb dX6_sees_148 (by decide) ?_
              obtain rfl := som1 h
              exact end_z F hr hlk (by decide) hG dX6_sees_149
            · intro H locs ls eo hG hl
              subst o59
              have h := se_r h
              refine lv_iconst (v := 0) hx hb dX6_sees_140 (by decide) ?_
              obtain rfl := som1 h
              exact end_z F hr hlk (by decide) hG dX6_sees_141
          · have h := ite_f h c53
            refine lv_iconst (v := 0) hx hb dX6_sees_93 (by decide) ?_
            obtain rfl := som1 h
            exact end_z F hr hlk (by decide) hG dX6_sees_94
        · have h := ite_t h c52
          refine lv_iconst (v := 4) hx hb dX6_sees_85 (by decide) ?_
          refine lv_goto (tgt := 90) hx hb dX6_sees_86 (by decide) ?_
          refine lv_icmp_le (tgt := 95) hx hb dX6_sees_90 (by decide) (fun c61 => ?_) (fun c61 => ?_)
          · have h := ite_t h c61
            refine lv_iload_n hx hb dX6_sees_95 rfl (lv_at hl 2 rfl) ?_
            obtain ⟨r63, hc62, h⟩ := cb1_e h
            refine k_i (r_runS F hG (c_J6_signum_0f7a4 l D ca g hc62) (kw784 F.kd) (kw785 F.kd) (kw16 F.kd) (kw786 F.kd) yd_J6_signum_0f7a4 ⟨Nat.le_of_ble_eq_true rfl, Nat.le_of_ble_eq_true rfl⟩ rfl hl.1 rfl (Nat.le_of_ble_eq_true rfl) dX6_sees_96 ⟨Nat.le_of_ble_eq_true rfl, Nat.le_of_ble_eq_true rfl⟩) hG (fun H locs hG => ?_)
            refine lv_bipush (v := 12) hx hb dX6_sees_99 (by decide) ?_
            refine lv_iload hx hb dX6_sees_101 (lv_at hl 1 rfl) ?_
            obtain ⟨r65, hc64, h⟩ := cb1_e h
            refine k_i (r_runS F hG (c_J6_signum_0f7a4 l D ca g hc64) (kw784 F.kd) (kw785 F.kd) (kw16 F.kd) (kw786 F.kd) yd_J6_signum_0f7a4 ⟨Nat.le_of_ble_eq_true rfl, Nat.le_of_ble_eq_true rfl⟩ rfl hl.1 rfl (Nat.le_of_ble_eq_true rfl) dX6_sees_103 ⟨Nat.le_of_ble_eq_true rfl, Nat.le_of_ble_eq_true rfl⟩) hG (fun H locs hG => ?_)
            refine lv_imul hx hb dX6_sees_106 ?_
            refine lv_iadd hx hb dX6_sees_107 ?_
            refine lv_topi (fun x66 ex66 => ?_)
            have h := mlet_n h ex66
            refine lv_istore (lv' := [(6, .int x66), (5, .int x21), (4, .int x18), (3, .int x13), (0, .ref (g a0)), (1, .int x1), (2, .int x2)]) hx hb dX6_sees_108 hl (by decide) rfl (fun ls hl => ?_)
            refine lv_iconst (v := 1) hx hb dX6_sees_110 (by decide) ?_
            refine lv_istore (lv' := [(7, .int 1), (6, .int x66), (5, .int x21), (4, .int x18), (3, .int x13), (0, .ref (g a0)), (1, .int x1), (2, .int x2)]) hx hb dX6_sees_111 hl (by decide) rfl (fun ls hl => ?_)
            obtain ⟨o67, ho68, h⟩ := cb1_e h
            refine m_X6_sees_L113_w (out := o67) F ha0 ?_ ?_ _ _ ho68 _ _ _ hG (lv_sub hl [5, 6, 2, 1, 0] rfl)
            · intro H locs ls eo hG hl
              subst o67
              have h := se_l h
              refine lv_iconst (v := 1) hx hb dX6_sees_148 (by decide) ?_
              obtain rfl := som1 h
              exact end_z F hr hlk (by decide) hG dX6_sees_149
            · intro H locs ls eo hG hl
              subst o67
              have h := se_r h
              refine lv_iconst (v := 0) hx hb dX6_sees_140 (by decide) ?_
              obtain rfl := som1 h
              exact end_z F hr hlk (by decide) hG dX6_sees_141
          · have h := ite_f h c61
            refine lv_iconst (v := 0) hx hb dX6_sees_93 (by decide) ?_
            obtain rfl := som1 h
            exact end_z F hr hlk (by decide) hG dX6_sees_94
  · have h := ite_t h c6
    refine lv_iconst (v := 0) hx hb dX6_sees_9 (by decide) ?_
    obtain rfl := som1 h
    exact end_z F hr hlk (by decide) hG dX6_sees_10
set_option maxHeartbeats 4000000 in
set_option maxRecDepth 100000 in
theorem m_X6_seenBy_L4_w {p : Program} {l : Launch} {e : Env} {s : State} {m : MethodId} {args : Array Value} {below : List Frame} {meth : Method} {c : Code} {Q : State → Prop} {D : va_G} {ca : vCA} {g : Nat → Nat} {fu : Nat} {M : Mem} {q0 : Nat} {y1 : Int32} {out : Int32} (F : FX p m c cX6_seenBy 4 s D ca g RX6) (hq0 : kd q0 = 6)
    (K0 : ∀ (u2 : Int32) (H : Heap) (locs : List Loc) (ls : Array Slot), out = u2 → GW D ca g s M H locs → lv_has ls 4 [(2, .int u2)] → W p l e ({ frames := 2, cells := 0, slots := 0, locals := 48 }) s m args below meth c H locs 0 0 Q (F0 m 38 ls [])) :
    ∀ (n : Nat) (z2 : Int32) (z3 : Int32), m_X6_seenBy_L4 fu M q0 y1 n z2 z3 = some out → ∀ (H : Heap) (locs : List Loc) (ls : Array Slot), GW D ca g s M H locs → lv_has ls 4 [(0, .ref (g q0)), (1, .int y1), (2, .int z2), (3, .int z3)] → W p l e ({ frames := 2, cells := 0, slots := 0, locals := 48 }) s m args below meth c H locs 0 0 Q (F0 m 4 ls []) := by
  have hx := F.1
  have hb := F.2.1
  intro n
  induction n with
  | zero =>
    intro z2 z3 h
    exact absurd h (by simp [m_X6_seenBy_L4])
  | succ n ih =>
    intro z2 z3 h H locs ls hG hl
    rw [m_X6_seenBy_L4] at h
    refine lv_iload_n hx hb dX6_seenBy_4 rfl (lv_at hl 3 rfl) ?_
    refine lv_aload_n hx hb dX6_seenBy_5 rfl (lv_at hl 0 rfl) ?_
    have hk3 := (show kd 44 = 7 from rfl)
    refine xg6 F hG hq0 10 (by decide) (kw660 F.kd) (v := .ref (g 44)) rfl dX6_seenBy_6 ?_
    refine xg7N F hG hk3 2 (by decide) (kw687 F.kd) (v := .int (M 44 2)) rfl dX6_seenBy_9 ?_
    refine lv_icmp_ge (tgt := 38) hx hb dX6_seenBy_12 (by decide) (fun c4 => ?_) (fun c4 => ?_)
    · have h := ite_t h c4
      exact K0 _ _ _ _ (som1 h).symm hG (lv_sub hl [2] rfl)
    · have h := ite_f h c4
      refine lv_iload_n hx hb dX6_seenBy_15 rfl (lv_at hl 2 rfl) ?_
      refine lv_aload_n hx hb dX6_seenBy_16 rfl (lv_at hl 0 rfl) ?_
      refine lv_iload_n hx hb dX6_seenBy_17 rfl (lv_at hl 3 rfl) ?_
      refine lv_iload_n hx hb dX6_seenBy_18 rfl (lv_at hl 1 rfl) ?_
      obtain ⟨r6, hc5, h⟩ := cb1_e h
      refine k_i (r_runV F hG (c_X6_sees l D ca g hq0 hc5) (kd_lt hq0 (by decide)) (gd6 hq0) rfl (kw779 F.kd) (kw780 F.kd) (kw781 F.kd) (kw8 F.kd) (kw782 F.kd) yd_X6_sees ⟨Nat.le_of_ble_eq_true rfl, Nat.le_of_ble_eq_true rfl⟩ rfl hl.1 rfl (Nat.le_of_ble_eq_true rfl) dX6_seenBy_19 ⟨Nat.le_of_ble_eq_true rfl, Nat.le_of_ble_eq_true rfl⟩) hG (fun H locs hG => ?_)
      refine lv_if_eq (tgt := 29) hx hb dX6_seenBy_22 (by decide) (fun c7 => ?_) (fun c7 => ?_)
      · have h := ite_t h c7
        refine lv_iconst (v := 0) hx hb dX6_seenBy_29 (by decide) ?_
        refine lv_iadd hx hb dX6_seenBy_30 ?_
        refine lv_topi (fun x8 ex8 => ?_)
        have h := mlet_n h ex8
        refine lv_istore_n (lv' := [(2, .int x8), (0, .ref (g q0)), (1, .int y1), (3, .int z3)]) hx hb dX6_seenBy_31 rfl hl (by decide) rfl (fun ls hl => ?_)
        obtain ⟨x9, ex9, h⟩ := mlet_e h
        refine lv_iinc (v := x9) (lv' := [(3, .int x9), (2, .int x8), (0, .ref (g q0)), (1, .int y1)]) hx hb dX6_seenBy_32 hl (k := 3) rfl (by rw [ex9]; rfl) (by decide) rfl (fun ls hl => ?_)
        refine lv_goto (tgt := 4) hx hb dX6_seenBy_35 (by decide) ?_
        exact ih x8 x9 h _ _ _ hG (lv_sub hl [2, 3, 1, 0] rfl)
      · have h := ite_f h c7
        refine lv_iconst (v := 1) hx hb dX6_seenBy_25 (by decide) ?_
        refine lv_goto (tgt := 30) hx hb dX6_seenBy_26 (by decide) ?_
        refine lv_iadd hx hb dX6_seenBy_30 ?_
        refine lv_topi (fun x10 ex10 => ?_)
        have h := mlet_n h ex10
        refine lv_istore_n (lv' := [(2, .int x10), (0, .ref (g q0)), (1, .int y1), (3, .int z3)]) hx hb dX6_seenBy_31 rfl hl (by decide) rfl (fun ls hl => ?_)
        obtain ⟨x11, ex11, h⟩ := mlet_e h
        refine lv_iinc (v := x11) (lv' := [(3, .int x11), (2, .int x10), (0, .ref (g q0)), (1, .int y1)]) hx hb dX6_seenBy_32 hl (k := 3) rfl (by rw [ex11]; rfl) (by decide) rfl (fun ls hl => ?_)
        refine lv_goto (tgt := 4) hx hb dX6_seenBy_35 (by decide) ?_
        exact ih x10 x11 h _ _ _ hG (lv_sub hl [2, 3, 1, 0] rfl)
set_option maxHeartbeats 4000000 in
set_option maxRecDepth 100000 in
theorem c_X6_seenBy (l : Launch) (D : va_G) (ca : vCA) (g : Nat → Nat) {fu : Nat} {M : Mem} {a0 : Nat} {x1 : Int32} {r : Int32} (ha0 : kd a0 = 6) (h : m_X6_seenBy fu M a0 x1 = some r) : cM l yX6_seenBy cX6_seenBy 4 (some .int) { frames := 2, cells := 0, slots := 0, locals := 48 } D ca g M [.ref (g a0), .int x1] (fun sz => cQi D ca g sz M r) := by
  refine mk_Met (by decide) (Nat.le_of_ble_eq_true rfl) ?_
  intro p e s m below meth c F hr hlk hnm hG ls hl
  have hx := F.1
  have hb := F.2.1
  replace hl : lv_has ls 4 [(0, .ref (g a0)), (1, .int x1)] := hl
  unfold m_X6_seenBy at h
  refine lv_iconst (v := 0) hx hb dX6_seenBy_0 (by decide) ?_
  refine lv_istore_n (lv' := [(2, .int 0), (0, .ref (g a0)), (1, .int x1)]) hx hb dX6_seenBy_1 rfl hl (by decide) rfl (fun ls hl => ?_)
  refine lv_iconst (v := 0) hx hb dX6_seenBy_2 (by decide) ?_
  refine lv_istore_n (lv' := [(3, .int 0), (2, .int 0), (0, .ref (g a0)), (1, .int x1)]) hx hb dX6_seenBy_3 rfl hl (by decide) rfl (fun ls hl => ?_)
  obtain ⟨o12, ho13, h⟩ := cb1_e h
  refine m_X6_seenBy_L4_w (out := o12) F ha0 ?_ _ _ _ ho13 _ _ _ hG (lv_sub hl [2, 3, 1, 0] rfl)
  · intro x14 H locs ls eo hG hl
    subst o12
    refine lv_iload_n hx hb dX6_seenBy_38 rfl (lv_at hl 0 rfl) ?_
    obtain rfl := som1 h
    exact end_i F hr hlk hG dX6_seenBy_39
set_option maxHeartbeats 4000000 in
set_option maxRecDepth 100000 in
theorem m_X6_pass_L2_w {p : Program} {l : Launch} {e : Env} {s : State} {m : MethodId} {args : Array Value} {below : List Frame} {meth : Method} {c : Code} {Q : State → Prop} {D : va_G} {ca : vCA} {g : Nat → Nat} {fu : Nat} {q0 : Nat} {out : Mem} (F : FX p m c cX6_pass 2 s D ca g RX6) (hq0 : kd q0 = 6)
    (K0 : ∀ (M1 : Mem) (H : Heap) (locs : List Loc) (ls : Array Slot), out = M1 → GW D ca g s M1 H locs → lv_has ls 2 [(0, .ref (g q0))] → W p l e ({ frames := 5, cells := 0, slots := 0, locals := 111 }) s m args below meth c H locs 0 0 Q (F0 m 24 ls [])) :
    ∀ (n : Nat) (M : Mem) (z1 : Int32), m_X6_pass_L2 fu q0 n M z1 = some out → ∀ (H : Heap) (locs : List Loc) (ls : Array Slot), GW D ca g s M H locs → lv_has ls 2 [(0, .ref (g q0)), (1, .int z1)] → W p l e ({ frames := 5, cells := 0, slots := 0, locals := 111 }) s m args below meth c H locs 0 0 Q (F0 m 2 ls []) := by
  have hx := F.1
  have hb := F.2.1
  intro n
  induction n with
  | zero =>
    intro M z1 h
    exact absurd h (by simp [m_X6_pass_L2])
  | succ n ih =>
    intro M z1 h H locs ls hG hl
    rw [m_X6_pass_L2] at h
    refine lv_iload_n hx hb dX6_pass_2 rfl (lv_at hl 1 rfl) ?_
    refine lv_aload_n hx hb dX6_pass_3 rfl (lv_at hl 0 rfl) ?_
    have hk2 := (show kd 44 = 7 from rfl)
    refine xg6 F hG hq0 10 (by decide) (kw660 F.kd) (v := .ref (g 44)) rfl dX6_pass_4 ?_
    refine xg7N F hG hk2 1 (by decide) (kw685 F.kd) (v := .int (M 44 1)) rfl dX6_pass_7 ?_
    refine lv_icmp_ge (tgt := 24) hx hb dX6_pass_10 (by decide) (fun c3 => ?_) (fun c3 => ?_)
    · have h := ite_t h c3
      exact K0 _ _ _ _ (som1 h).symm hG (lv_sub hl [0] rfl)
    · have h := ite_f h c3
      refine lv_aload_n hx hb dX6_pass_13 rfl (lv_at hl 0 rfl) ?_
      refine lv_iload_n hx hb dX6_pass_14 rfl (lv_at hl 1 rfl) ?_
      obtain ⟨M6, hc4, h⟩ := cb1_e h
      refine k_v (r_runV F hG (c_X6_act l D ca g hq0 hc4) (kd_lt hq0 (by decide)) (gd6 hq0) rfl (kw861 F.kd) (kw863 F.kd) (ks_X6_act F.kd) (kw8 F.kd) (kw864 F.kd) yd_X6_act ⟨Nat.le_of_ble_eq_true rfl, Nat.le_of_ble_eq_true rfl⟩ rfl hl.1 rfl (Nat.le_of_ble_eq_true rfl) dX6_pass_15 ⟨Nat.le_of_ble_eq_true rfl, Nat.le_of_ble_eq_true rfl⟩) hG (fun H locs hG => ?_)
      obtain ⟨x7, ex7, h⟩ := mlet_e h
      refine lv_iinc (v := x7) (lv' := [(1, .int x7), (0, .ref (g q0))]) hx hb dX6_pass_18 hl (k := 1) rfl (by rw [ex7]; rfl) (by decide) rfl (fun ls hl => ?_)
      refine lv_goto (tgt := 2) hx hb dX6_pass_21 (by decide) ?_
      exact ih M6 x7 h _ _ _ hG (lv_sub hl [1, 0] rfl)
set_option maxHeartbeats 4000000 in
set_option maxRecDepth 100000 in
theorem m_X6_pass_L26_w {p : Program} {l : Launch} {e : Env} {s : State} {m : MethodId} {args : Array Value} {below : List Frame} {meth : Method} {c : Code} {Q : State → Prop} {D : va_G} {ca : vCA} {g : Nat → Nat} {fu : Nat} {q0 : Nat} {out : Mem} (F : FX p m c cX6_pass 2 s D ca g RX6) (hq0 : kd q0 = 6)
    (K0 : ∀ (M1 : Mem) (H : Heap) (locs : List Loc) (ls : Array Slot), out = M1 → GW D ca g s M1 H locs → lv_has ls 2 [(0, .ref (g q0))] → W p l e ({ frames := 5, cells := 0, slots := 0, locals := 111 }) s m args below meth c H locs 0 0 Q (F0 m 48 ls [])) :
    ∀ (n : Nat) (M : Mem) (z1 : Int32), m_X6_pass_L26 fu q0 n M z1 = some out → ∀ (H : Heap) (locs : List Loc) (ls : Array Slot), GW D ca g s M H locs → lv_has ls 2 [(0, .ref (g q0)), (1, .int z1)] → W p l e ({ frames := 5, cells := 0, slots := 0, locals := 111 }) s m args below meth c H locs 0 0 Q (F0 m 26 ls []) := by
  have hx := F.1
  have hb := F.2.1
  intro n
  induction n with
  | zero =>
    intro M z1 h
    exact absurd h (by simp [m_X6_pass_L26])
  | succ n ih =>
    intro M z1 h H locs ls hG hl
    rw [m_X6_pass_L26] at h
    refine lv_iload_n hx hb dX6_pass_26 rfl (lv_at hl 1 rfl) ?_
    refine lv_aload_n hx hb dX6_pass_27 rfl (lv_at hl 0 rfl) ?_
    have hk11 := (show kd 44 = 7 from rfl)
    refine xg6 F hG hq0 10 (by decide) (kw660 F.kd) (v := .ref (g 44)) rfl dX6_pass_28 ?_
    refine xg7N F hG hk11 2 (by decide) (kw687 F.kd) (v := .int (M 44 2)) rfl dX6_pass_31 ?_
    refine lv_icmp_ge (tgt := 48) hx hb dX6_pass_34 (by decide) (fun c12 => ?_) (fun c12 => ?_)
    · have h := ite_t h c12
      exact K0 _ _ _ _ (som1 h).symm hG (lv_sub hl [0] rfl)
    · have h := ite_f h c12
      refine lv_aload_n hx hb dX6_pass_37 rfl (lv_at hl 0 rfl) ?_
      refine lv_iload_n hx hb dX6_pass_38 rfl (lv_at hl 1 rfl) ?_
      obtain ⟨M15, hc13, h⟩ := cb1_e h
      refine k_v (r_runV F hG (c_X6_patrol l D ca g hq0 hc13) (kd_lt hq0 (by decide)) (gd6 hq0) rfl (kw888 F.kd) (kw890 F.kd) (ks_X6_patrol F.kd) (kw8 F.kd) (kw891 F.kd) yd_X6_patrol ⟨Nat.le_of_ble_eq_true rfl, Nat.le_of_ble_eq_true rfl⟩ rfl hl.1 rfl (Nat.le_of_ble_eq_true rfl) dX6_pass_39 ⟨Nat.le_of_ble_eq_true rfl, Nat.le_of_ble_eq_true rfl⟩) hG (fun H locs hG => ?_)
      obtain ⟨x16, ex16, h⟩ := mlet_e h
      refine lv_iinc (v := x16) (lv' := [(1, .int x16), (0, .ref (g q0))]) hx hb dX6_pass_42 hl (k := 1) rfl (by rw [ex16]; rfl) (by decide) rfl (fun ls hl => ?_)
      refine lv_goto (tgt := 26) hx hb dX6_pass_45 (by decide) ?_
      exact ih M15 x16 h _ _ _ hG (lv_sub hl [1, 0] rfl)
set_option maxHeartbeats 4000000 in
set_option maxRecDepth 100000 in
theorem m_X6_pass_L50_w {p : Program} {l : Launch} {e : Env} {s : State} {m : MethodId} {args : Array Value} {below : List Frame} {meth : Method} {c : Code} {Q : State → Prop} {D : va_G} {ca : vCA} {g : Nat → Nat} {fu : Nat} {q0 : Nat} {out : Mem} (F : FX p m c cX6_pass 2 s D ca g RX6) (hq0 : kd q0 = 6)
    (K0 : ∀ (M1 : Mem) (H : Heap) (locs : List Loc) (ls : Array Slot), out = M1 → GW D ca g s M1 H locs → lv_has ls 2 [(0, .ref (g q0))] → W p l e ({ frames := 5, cells := 0, slots := 0, locals := 111 }) s m args below meth c H locs 0 0 Q (F0 m 89 ls [])) :
    ∀ (n : Nat) (M : Mem) (z1 : Int32), m_X6_pass_L50 fu q0 n M z1 = some out → ∀ (H : Heap) (locs : List Loc) (ls : Array Slot), GW D ca g s M H locs → lv_has ls 2 [(0, .ref (g q0)), (1, .int z1)] → W p l e ({ frames := 5, cells := 0, slots := 0, locals := 111 }) s m args below meth c H locs 0 0 Q (F0 m 50 ls []) := by
  have hx := F.1
  have hb := F.2.1
  intro n
  induction n with
  | zero =>
    intro M z1 h
    exact absurd h (by simp [m_X6_pass_L50])
  | succ n ih =>
    intro M z1 h H locs ls hG hl
    rw [m_X6_pass_L50] at h
    refine lv_iload_n hx hb dX6_pass_50 rfl (lv_at hl 1 rfl) ?_
    refine lv_aload_n hx hb dX6_pass_51 rfl (lv_at hl 0 rfl) ?_
    have hk20 := (show kd 44 = 7 from rfl)
    refine xg6 F hG hq0 10 (by decide) (kw660 F.kd) (v := .ref (g 44)) rfl dX6_pass_52 ?_
    refine xg7N F hG hk20 1 (by decide) (kw685 F.kd) (v := .int (M 44 1)) rfl dX6_pass_55 ?_
    refine lv_icmp_ge (tgt := 89) hx hb dX6_pass_58 (by decide) (fun c21 => ?_) (fun c21 => ?_)
    · have h := ite_t h c21
      exact K0 _ _ _ _ (som1 h).symm hG (lv_sub hl [0] rfl)
    · have h := ite_f h c21
      refine lv_aload_n hx hb dX6_pass_61 rfl (lv_at hl 0 rfl) ?_
      have hk22 := kt_s3 hq0
      refine xg6 F hG hq0 3 (by decide) (kw646 F.kd) (v := .ref (g (q0 + 3))) rfl dX6_pass_62 ?_
      refine lv_iload_n hx hb dX6_pass_65 rfl (lv_at hl 1 rfl) ?_
      refine lv_iconst (v := 0) hx hb dX6_pass_66 (by decide) ?_
      refine lv_aload_n hx hb dX6_pass_67 rfl (lv_at hl 0 rfl) ?_
      have hk23 := kt_s3 hq0
      refine xg6 F hG hq0 3 (by decide) (kw646 F.kd) (v := .ref (g (q0 + 3))) rfl dX6_pass_68 ?_
      refine lv_iload_n hx hb dX6_pass_71 rfl (lv_at hl 1 rfl) ?_
      obtain ⟨hi24, h⟩ := chk_e h
      refine r_ald F hG hk23 hi24 dX6_pass_72 ?_
      refine lv_aload_n hx hb dX6_pass_73 rfl (lv_at hl 0 rfl) ?_
      refine lv_iload_n hx hb dX6_pass_74 rfl (lv_at hl 1 rfl) ?_
      obtain ⟨r26, hc25, h⟩ := cb1_e h
      refine k_i (r_runV F hG (c_X6_seenBy l D ca g hq0 hc25) (kd_lt hq0 (by decide)) (gd6 hq0) rfl (kw892 F.kd) (kw776 F.kd) (kw777 F.kd) (kw8 F.kd) (kw778 F.kd) yd_X6_seenBy ⟨Nat.le_of_ble_eq_true rfl, Nat.le_of_ble_eq_true rfl⟩ rfl hl.1 rfl (Nat.le_of_ble_eq_true rfl) dX6_pass_75 ⟨Nat.le_of_ble_eq_true rfl, Nat.le_of_ble_eq_true rfl⟩) hG (fun H locs hG => ?_)
      refine lv_isub hx hb dX6_pass_78 ?_
      obtain ⟨x27, ex27, h⟩ := mlet_e h
      rw [← ex27]
      refine va_mmax hx hb (F.2.2.1.trans hl.1.symm) F.2.2.2.1 (kw816 F.kd) (kw193 F.kd) (kw15 F.kd) (kw194 F.kd) (Nat.le_of_ble_eq_true rfl) (Nat.le_of_ble_eq_true rfl) (Nat.zero_le _) (Nat.zero_le _) dX6_pass_79 ?_
      refine lv_topi (fun x28 ex28 => ?_)
      have h := mlet_n h ex28
      obtain ⟨hi29, h⟩ := chk_e h
      obtain ⟨M30, eM30, h⟩ := mlet_e h
      refine r_ast F hG hk22 hi29 eM30 dX6_pass_82 (fun H locs hG => ?_)
      obtain ⟨x31, ex31, h⟩ := mlet_e h
      refine lv_iinc (v := x31) (lv' := [(1, .int x31), (0, .ref (g q0))]) hx hb dX6_pass_83 hl (k := 1) rfl (by rw [ex31]; rfl) (by decide) rfl (fun ls hl => ?_)
      refine lv_goto (tgt := 50) hx hb dX6_pass_86 (by decide) ?_
      exact ih M30 x31 h _ _ _ hG (lv_sub hl [1, 0] rfl)
set_option maxHeartbeats 4000000 in
set_option maxRecDepth 100000 in
theorem c_X6_pass (l : Launch) (D : va_G) (ca : vCA) (g : Nat → Nat) {fu : Nat} {M : Mem} {a0 : Nat} {M' : Mem} (ha0 : kd a0 = 6) (h : m_X6_pass fu M a0 = some M') : cM l yX6_pass cX6_pass 2 none { frames := 5, cells := 0, slots := 0, locals := 111 } D ca g M [.ref (g a0)] (fun sz => cQv D ca g sz M') := by
  refine mk_Met (by decide) (Nat.le_of_ble_eq_true rfl) ?_
  intro p e s m below meth c F hr hlk hnm hG ls hl
  have hx := F.1
  have hb := F.2.1
  replace hl : lv_has ls 2 [(0, .ref (g a0))] := hl
  unfold m_X6_pass at h
  refine lv_iconst (v := 0) hx hb dX6_pass_0 (by decide) ?_
  refine lv_istore_n (lv' := [(1, .int 0), (0, .ref (g a0))]) hx hb dX6_pass_1 rfl hl (by decide) rfl (fun ls hl => ?_)
  obtain ⟨o8, ho9, h⟩ := cb1_e h
  refine m_X6_pass_L2_w (out := o8) F ha0 ?_ _ _ _ ho9 _ _ _ hG (lv_sub hl [1, 0] rfl)
  · intro M10 H locs ls eo hG hl
    subst o8
    refine lv_iconst (v := 0) hx hb dX6_pass_24 (by decide) ?_
    refine lv_istore_n (lv' := [(1, .int 0), (0, .ref (g a0))]) hx hb dX6_pass_25 rfl hl (by decide) rfl (fun ls hl => ?_)
    obtain ⟨o17, ho18, h⟩ := cb1_e h
    refine m_X6_pass_L26_w (out := o17) F ha0 ?_ _ _ _ ho18 _ _ _ hG (lv_sub hl [1, 0] rfl)
    · intro M19 H locs ls eo hG hl
      subst o17
      refine lv_iconst (v := 0) hx hb dX6_pass_48 (by decide) ?_
      refine lv_istore_n (lv' := [(1, .int 0), (0, .ref (g a0))]) hx hb dX6_pass_49 rfl hl (by decide) rfl (fun ls hl => ?_)
      obtain ⟨o32, ho33, h⟩ := cb1_e h
      refine m_X6_pass_L50_w (out := o32) F ha0 ?_ _ _ _ ho33 _ _ _ hG (lv_sub hl [1, 0] rfl)
      · intro M34 H locs ls eo hG hl
        subst o32
        refine lv_aload_n hx hb dX6_pass_89 rfl (lv_at hl 0 rfl) ?_
        refine lv_dup hx hb dX6_pass_90 rfl ?_
        refine xg6 F hG ha0 0 (by decide) (kw640 F.kd) (v := .int (M34 a0 0)) rfl dX6_pass_91 ?_
        refine lv_iconst (v := 1) hx hb dX6_pass_94 (by decide) ?_
        refine lv_iadd hx hb dX6_pass_95 ?_
        obtain ⟨M35, eM35, h⟩ := mlet_e h
        refine xp6 F hG ha0 eM35 rfl (by decide) (kw640 F.kd) rfl rfl rfl dX6_pass_96 (fun H locs hG => ?_)
        obtain rfl := som1 h
        exact end_v F hr hlk hG dX6_pass_99
set_option maxHeartbeats 4000000 in
set_option maxRecDepth 100000 in
theorem m_X6_allPeople_L4_w {p : Program} {l : Launch} {e : Env} {s : State} {m : MethodId} {args : Array Value} {below : List Frame} {meth : Method} {c : Code} {Q : State → Prop} {D : va_G} {ca : vCA} {g : Nat → Nat} {fu : Nat} {M : Mem} {q0 : Nat} {out : Int32} (F : FX p m c cX6_allPeople 3 s D ca g RX6) (hq0 : kd q0 = 6)
    (K0 : ∀ (u1 : Int32) (H : Heap) (locs : List Loc) (ls : Array Slot), out = u1 → GW D ca g s M H locs → lv_has ls 3 [(1, .int u1)] → W p l e ({ frames := 0, cells := 0, slots := 0, locals := 0 }) s m args below meth c H locs 0 0 Q (F0 m 30 ls [])) :
    ∀ (n : Nat) (z1 : Int32) (z2 : Int32), m_X6_allPeople_L4 fu M q0 n z1 z2 = some out → ∀ (H : Heap) (locs : List Loc) (ls : Array Slot), GW D ca g s M H locs → lv_has ls 3 [(0, .ref (g q0)), (1, .int z1), (2, .int z2)] → W p l e ({ frames := 0, cells := 0, slots := 0, locals := 0 }) s m args below meth c H locs 0 0 Q (F0 m 4 ls []) := by
  have hx := F.1
  have hb := F.2.1
  intro n
  induction n with
  | zero =>
    intro z1 z2 h
    exact absurd h (by simp [m_X6_allPeople_L4])
  | succ n ih =>
    intro z1 z2 h H locs ls hG hl
    rw [m_X6_allPeople_L4] at h
    refine lv_iload_n hx hb dX6_allPeople_4 rfl (lv_at hl 2 rfl) ?_
    refine lv_aload_n hx hb dX6_allPeople_5 rfl (lv_at hl 0 rfl) ?_
    have hk2 := (show kd 44 = 7 from rfl)
    refine xg6 F hG hq0 10 (by decide) (kw660 F.kd) (v := .ref (g 44)) rfl dX6_allPeople_6 ?_
    refine xg7N F hG hk2 1 (by decide) (kw685 F.kd) (v := .int (M 44 1)) rfl dX6_allPeople_9 ?_
    refine lv_icmp_ge (tgt := 30) hx hb dX6_allPeople_12 (by decide) (fun c3 => ?_) (fun c3 => ?_)
    · have h := ite_t h c3
      exact K0 _ _ _ _ (som1 h).symm hG (lv_sub hl [1] rfl)
    · have h := ite_f h c3
      refine lv_iload_n hx hb dX6_allPeople_15 rfl (lv_at hl 1 rfl) ?_
      refine lv_aload_n hx hb dX6_allPeople_16 rfl (lv_at hl 0 rfl) ?_
      have hk4 := kt_s3 hq0
      refine xg6 F hG hq0 3 (by decide) (kw646 F.kd) (v := .ref (g (q0 + 3))) rfl dX6_allPeople_17 ?_
      refine lv_iload_n hx hb dX6_allPeople_20 rfl (lv_at hl 2 rfl) ?_
      obtain ⟨hi5, h⟩ := chk_e h
      refine r_ald F hG hk4 hi5 dX6_allPeople_21 ?_
      refine lv_iadd hx hb dX6_allPeople_22 ?_
      refine lv_topi (fun x6 ex6 => ?_)
      have h := mlet_n h ex6
      refine lv_istore_n (lv' := [(1, .int x6), (0, .ref (g q0)), (2, .int z2)]) hx hb dX6_allPeople_23 rfl hl (by decide) rfl (fun ls hl => ?_)
      obtain ⟨x7, ex7, h⟩ := mlet_e h
      refine lv_iinc (v := x7) (lv' := [(2, .int x7), (1, .int x6), (0, .ref (g q0))]) hx hb dX6_allPeople_24 hl (k := 2) rfl (by rw [ex7]; rfl) (by decide) rfl (fun ls hl => ?_)
      refine lv_goto (tgt := 4) hx hb dX6_allPeople_27 (by decide) ?_
      exact ih x6 x7 h _ _ _ hG (lv_sub hl [2, 1, 0] rfl)
set_option maxHeartbeats 4000000 in
set_option maxRecDepth 100000 in
theorem c_X6_allPeople (l : Launch) (D : va_G) (ca : vCA) (g : Nat → Nat) {fu : Nat} {M : Mem} {a0 : Nat} {r : Int32} (ha0 : kd a0 = 6) (h : m_X6_allPeople fu M a0 = some r) : cM l yX6_allPeople cX6_allPeople 3 (some .int) { frames := 0, cells := 0, slots := 0, locals := 0 } D ca g M [.ref (g a0)] (fun sz => cQi D ca g sz M r) := by
  refine mk_Met (by decide) (Nat.le_of_ble_eq_true rfl) ?_
  intro p e s m below meth c F hr hlk hnm hG ls hl
  have hx := F.1
  have hb := F.2.1
  replace hl : lv_has ls 3 [(0, .ref (g a0))] := hl
  unfold m_X6_allPeople at h
  refine lv_iconst (v := 0) hx hb dX6_allPeople_0 (by decide) ?_
  refine lv_istore_n (lv' := [(1, .int 0), (0, .ref (g a0))]) hx hb dX6_allPeople_1 rfl hl (by decide) rfl (fun ls hl => ?_)
  refine lv_iconst (v := 0) hx hb dX6_allPeople_2 (by decide) ?_
  refine lv_istore_n (lv' := [(2, .int 0), (1, .int 0), (0, .ref (g a0))]) hx hb dX6_allPeople_3 rfl hl (by decide) rfl (fun ls hl => ?_)
  obtain ⟨o8, ho9, h⟩ := cb1_e h
  refine m_X6_allPeople_L4_w (out := o8) F ha0 ?_ _ _ _ ho9 _ _ _ hG (lv_sub hl [2, 1, 0] rfl)
  · intro x10 H locs ls eo hG hl
    subst o8
    refine lv_iload_n hx hb dX6_allPeople_30 rfl (lv_at hl 0 rfl) ?_
    obtain rfl := som1 h
    exact end_i F hr hlk hG dX6_allPeople_31
set_option maxHeartbeats 4000000 in
set_option maxRecDepth 100000 in
theorem m_X6_barricades_L13_w {p : Program} {l : Launch} {e : Env} {s : State} {m : MethodId} {args : Array Value} {below : List Frame} {meth : Method} {c : Code} {Q : State → Prop} {D : va_G} {ca : vCA} {g : Nat → Nat} {fu : Nat} {M : Mem} {q2 : Nat} {y3 : Int32} {out : Int32} (F : FX p m c cX6_barricades 6 s D ca g RX6) (hq2 : kd q2 = 8)
    (K0 : ∀ (u1 : Int32) (H : Heap) (locs : List Loc) (ls : Array Slot), out = u1 → GW D ca g s M H locs → lv_has ls 6 [(1, .int u1)] → W p l e ({ frames := 1, cells := 0, slots := 0, locals := 21 }) s m args below meth c H locs 0 0 Q (F0 m 40 ls [])) :
    ∀ (n : Nat) (z1 : Int32) (z4 : Int32), m_X6_barricades_L13 fu M q2 y3 n z1 z4 = some out → ∀ (H : Heap) (locs : List Loc) (ls : Array Slot), GW D ca g s M H locs → lv_has ls 6 [(1, .int z1), (2, .ref (g q2)), (3, .int y3), (4, .int z4)] → W p l e ({ frames := 1, cells := 0, slots := 0, locals := 21 }) s m args below meth c H locs 0 0 Q (F0 m 13 ls []) := by
  have hx := F.1
  have hb := F.2.1
  intro n
  induction n with
  | zero =>
    intro z1 z4 h
    exact absurd h (by simp [m_X6_barricades_L13])
  | succ n ih =>
    intro z1 z4 h H locs ls hG hl
    rw [m_X6_barricades_L13] at h
    refine lv_iload hx hb dX6_barricades_13 (lv_at hl 3 rfl) ?_
    refine lv_iload_n hx hb dX6_barricades_15 rfl (lv_at hl 2 rfl) ?_
    refine lv_icmp_ge (tgt := 40) hx hb dX6_barricades_16 (by decide) (fun c4 => ?_) (fun c4 => ?_)
    · have h := ite_t h c4
      exact K0 _ _ _ _ (som1 h).symm hG (lv_sub hl [0] rfl)
    · have h := ite_f h c4
      refine lv_aload_n hx hb dX6_barricades_19 rfl (lv_at hl 1 rfl) ?_
      refine lv_iload hx hb dX6_barricades_20 (lv_at hl 3 rfl) ?_
      obtain ⟨hi5, h⟩ := chk_e h
      refine r_ald F hG hq2 hi5 dX6_barricades_22 ?_
      refine lv_topi (fun x6 ex6 => ?_)
      have h := mlet_n h ex6
      refine lv_istore (lv' := [(5, .int x6), (1, .int z1), (2, .ref (g q2)), (3, .int y3), (4, .int z4)]) hx hb dX6_barricades_23 hl (by decide) rfl (fun ls hl => ?_)
      refine lv_iload_n hx hb dX6_barricades_25 rfl (lv_at hl 1 rfl) ?_
      refine lv_iconst (v := 0) hx hb dX6_barricades_26 (by decide) ?_
      refine lv_iload hx hb dX6_barricades_27 (lv_at hl 0 rfl) ?_
      refine va_mmax hx hb (F.2.2.1.trans hl.1.symm) F.2.2.2.1 (kw816 F.kd) (kw193 F.kd) (kw15 F.kd) (kw194 F.kd) (Nat.le_of_ble_eq_true rfl) (Nat.le_of_ble_eq_true rfl) (Nat.zero_le _) (Nat.zero_le _) dX6_barricades_29 ?_
      refine lv_topi (fun x7 ex7 => ?_)
      have h := mlet_n h ex7
      refine lv_iadd hx hb dX6_barricades_32 ?_
      refine lv_topi (fun x8 ex8 => ?_)
      have h := mlet_n h ex8
      refine lv_istore_n (lv' := [(1, .int x8), (5, .int x6), (2, .ref (g q2)), (3, .int y3), (4, .int z4)]) hx hb dX6_barricades_33 rfl hl (by decide) rfl (fun ls hl => ?_)
      obtain ⟨x9, ex9, h⟩ := mlet_e h
      refine lv_iinc (v := x9) (lv' := [(4, .int x9), (1, .int x8), (5, .int x6), (2, .ref (g q2)), (3, .int y3)]) hx hb dX6_barricades_34 hl (k := 4) rfl (by rw [ex9]; rfl) (by decide) rfl (fun ls hl => ?_)
      refine lv_goto (tgt := 13) hx hb dX6_barricades_37 (by decide) ?_
      exact ih x8 x9 h _ _ _ hG (lv_sub hl [1, 3, 4, 0] rfl)
set_option maxHeartbeats 4000000 in
set_option maxRecDepth 100000 in
theorem c_X6_barricades (l : Launch) (D : va_G) (ca : vCA) (g : Nat → Nat) {fu : Nat} {M : Mem} {a0 : Nat} {r : Int32} (ha0 : kd a0 = 6) (h : m_X6_barricades fu M a0 = some r) : cM l yX6_barricades cX6_barricades 6 (some .int) { frames := 1, cells := 0, slots := 0, locals := 21 } D ca g M [.ref (g a0)] (fun sz => cQi D ca g sz M r) := by
  refine mk_Met (by decide) (Nat.le_of_ble_eq_true rfl) ?_
  intro p e s m below meth c F hr hlk hnm hG ls hl
  have hx := F.1
  have hb := F.2.1
  replace hl : lv_has ls 6 [(0, .ref (g a0))] := hl
  unfold m_X6_barricades at h
  refine lv_iconst (v := 0) hx hb dX6_barricades_0 (by decide) ?_
  refine lv_istore_n (lv' := [(1, .int 0), (0, .ref (g a0))]) hx hb dX6_barricades_1 rfl hl (by decide) rfl (fun ls hl => ?_)
  refine lv_aload_n hx hb dX6_barricades_2 rfl (lv_at hl 1 rfl) ?_
  have hk2 := kt_s1 ha0
  refine xg6 F hG ha0 1 (by decide) (kw642 F.kd) (v := .ref (g (a0 + 1))) rfl dX6_barricades_3 ?_
  refine lv_astore_n (lv' := [(2, .ref (g (a0 + 1))), (1, .int 0), (0, .ref (g a0))]) hx hb dX6_barricades_6 rfl hl (by decide) rfl (fun ls hl => ?_)
  refine lv_aload_n hx hb dX6_barricades_7 rfl (lv_at hl 0 rfl) ?_
  refine r_alen F hG hk2 (v := (Int32.ofNat (alen (a0 + 1)))) rfl dX6_barricades_8 ?_
  refine lv_topi (fun x3 ex3 => ?_)
  have h := mlet_n h ex3
  refine lv_istore_n (lv' := [(3, .int x3), (2, .ref (g (a0 + 1))), (1, .int 0), (0, .ref (g a0))]) hx hb dX6_barricades_9 rfl hl (by decide) rfl (fun ls hl => ?_)
  refine lv_iconst (v := 0) hx hb dX6_barricades_10 (by decide) ?_
  refine lv_istore (lv' := [(4, .int 0), (3, .int x3), (2, .ref (g (a0 + 1))), (1, .int 0), (0, .ref (g a0))]) hx hb dX6_barricades_11 hl (by decide) rfl (fun ls hl => ?_)
  obtain ⟨o10, ho11, h⟩ := cb1_e h
  refine m_X6_barricades_L13_w (out := o10) F hk2 ?_ _ _ _ ho11 _ _ _ hG (lv_sub hl [3, 2, 1, 0] rfl)
  · intro x12 H locs ls eo hG hl
    subst o10
    refine lv_iload_n hx hb dX6_barricades_40 rfl (lv_at hl 0 rfl) ?_
    obtain rfl := som1 h
    exact end_i F hr hlk hG dX6_barricades_41
set_option maxHeartbeats 4000000 in
set_option maxRecDepth 100000 in
theorem c_X6_cost (l : Launch) (D : va_G) (ca : vCA) (g : Nat → Nat) {fu : Nat} {M : Mem} {a0 : Nat} {x1 : Int32} {r : Int32} (ha0 : kd a0 = 6) (h : m_X6_cost fu M a0 x1 = some r) : cM l yX6_cost cX6_cost 2 (some .int) { frames := 0, cells := 0, slots := 0, locals := 0 } D ca g M [.ref (g a0), .int x1] (fun sz => cQi D ca g sz M r) := by
  refine mk_Met (by decide) (Nat.le_of_ble_eq_true rfl) ?_
  intro p e s m below meth c F hr hlk hnm hG ls hl
  have hx := F.1
  have hb := F.2.1
  replace hl : lv_has ls 2 [(0, .ref (g a0)), (1, .int x1)] := hl
  unfold m_X6_cost at h
  refine lv_aload_n hx hb dX6_cost_0 rfl (lv_at hl 0 rfl) ?_
  have hk3 := kt_s1 ha0
  refine xg6 F hG ha0 1 (by decide) (kw642 F.kd) (v := .ref (g (a0 + 1))) rfl dX6_cost_1 ?_
  refine lv_iload_n hx hb dX6_cost_4 rfl (lv_at hl 1 rfl) ?_
  obtain ⟨hi4, h⟩ := chk_e h
  refine r_ald F hG hk3 hi4 dX6_cost_5 ?_
  refine lv_if_ne (tgt := 13) hx hb dX6_cost_6 (by decide) (fun c5 => ?_) (fun c5 => ?_)
  · have h := ite_f h c5
    refine lv_iconst (v := 0) hx hb dX6_cost_13 (by decide) ?_
    obtain rfl := som1 h
    exact end_i F hr hlk hG dX6_cost_14
  · have h := ite_t h c5
    refine lv_iconst (v := 1) hx hb dX6_cost_9 (by decide) ?_
    refine lv_goto (tgt := 14) hx hb dX6_cost_10 (by decide) ?_
    obtain rfl := som1 h
    exact end_i F hr hlk hG dX6_cost_14
set_option maxHeartbeats 4000000 in
set_option maxRecDepth 100000 in
theorem m_X6_leastBeside_L46_w {p : Program} {l : Launch} {e : Env} {s : State} {m : MethodId} {args : Array Value} {below : List Frame} {meth : Method} {c : Code} {Q : State → Prop} {D : va_G} {ca : vCA} {g : Nat → Nat} {fu : Nat} {M : Mem} {q0 : Nat} {y2 : Int32} {y3 : Int32} {y5 : Int32} {out : Int32} (F : FX p m c cX6_leastBeside 7 s D ca g RX6) (hq0 : kd q0 = 6)
    (K0 : ∀ (u4 : Int32) (H : Heap) (locs : List Loc) (ls : Array Slot), out = u4 → GW D ca g s M H locs → lv_has ls 7 [(0, .ref (g q0)), (2, .int y2), (3, .int y3), (4, .int u4), (5, .int y5)] → W p l e ({ frames := 1, cells := 0, slots := 0, locals := 21 }) s m args below meth c H locs 0 0 Q (F0 m 88 ls [])) :
    ∀ (n : Nat) (z4 : Int32) (z6 : Int32), m_X6_leastBeside_L46 fu M q0 y2 y3 y5 n z4 z6 = some out → ∀ (H : Heap) (locs : List Loc) (ls : Array Slot), GW D ca g s M H locs → lv_has ls 7 [(0, .ref (g q0)), (2, .int y2), (3, .int y3), (4, .int z4), (5, .int y5), (6, .int z6)] → W p l e ({ frames := 1, cells := 0, slots := 0, locals := 21 }) s m args below meth c H locs 0 0 Q (F0 m 46 ls []) := by
  have hx := F.1
  have hb := F.2.1
  intro n
  induction n with
  | zero =>
    intro z4 z6 h
    exact absurd h (by simp [m_X6_leastBeside_L46])
  | succ n ih =>
    intro z4 z6 h H locs ls hG hl
    rw [m_X6_leastBeside_L46] at h
    refine lv_iload hx hb dX6_leastBeside_46 (lv_at hl 5 rfl) ?_
    refine lv_bipush (v := 8) hx hb dX6_leastBeside_48 (by decide) ?_
    refine lv_iload_n hx hb dX6_leastBeside_50 rfl (lv_at hl 2 rfl) ?_
    refine lv_iconst (v := 1) hx hb dX6_leastBeside_51 (by decide) ?_
    refine lv_iadd hx hb dX6_leastBeside_52 ?_
    obtain ⟨x12, ex12, h⟩ := mlet_e h
    rw [← ex12]
    refine va_mmin hx hb (F.2.2.1.trans hl.1.symm) F.2.2.2.1 (kw852 F.kd) (kw196 F.kd) (kw15 F.kd) (kw197 F.kd) (Nat.le_of_ble_eq_true rfl) (Nat.le_of_ble_eq_true rfl) (Nat.zero_le _) (Nat.zero_le _) dX6_leastBeside_53 ?_
    refine lv_topi (fun x13 ex13 => ?_)
    have h := mlet_n h ex13
    refine lv_icmp_gt (tgt := 88) hx hb dX6_leastBeside_56 (by decide) (fun c14 => ?_) (fun c14 => ?_)
    · have h := ite_t h c14
      exact K0 _ _ _ _ (som1 h).symm hG (lv_sub hl [0, 1, 2, 3, 4] rfl)
    · have h := ite_f h c14
      refine lv_iload hx hb dX6_leastBeside_59 (lv_at hl 3 rfl) ?_
      refine lv_aload_n hx hb dX6_leastBeside_61 rfl (lv_at hl 0 rfl) ?_
      have hk15 := (show kd 44 = 7 from rfl)
      refine xg6 F hG hq0 10 (by decide) (kw660 F.kd) (v := .ref (g 44)) rfl dX6_leastBeside_62 ?_
      have hk16 := kt_m3 hk15
      refine xg7N F hG hk15 5 (by decide) (kw694 F.kd) (v := .ref (g (44 + 3))) rfl dX6_leastBeside_65 ?_
      refine lv_bipush (v := 12) hx hb dX6_leastBeside_68 (by decide) ?_
      refine lv_iload hx hb dX6_leastBeside_70 (lv_at hl 5 rfl) ?_
      refine lv_imul hx hb dX6_leastBeside_72 ?_
      refine lv_iload hx hb dX6_leastBeside_73 (lv_at hl 4 rfl) ?_
      refine lv_iadd hx hb dX6_leastBeside_75 ?_
      obtain ⟨hi17, h⟩ := chk_e h
      refine r_ald F hG hk16 hi17 dX6_leastBeside_76 ?_
      obtain ⟨x18, ex18, h⟩ := mlet_e h
      rw [← ex18]
      refine va_mmin hx hb (F.2.2.1.trans hl.1.symm) F.2.2.2.1 (kw852 F.kd) (kw196 F.kd) (kw15 F.kd) (kw197 F.kd) (Nat.le_of_ble_eq_true rfl) (Nat.le_of_ble_eq_true rfl) (Nat.zero_le _) (Nat.zero_le _) dX6_leastBeside_77 ?_
      refine lv_topi (fun x19 ex19 => ?_)
      have h := mlet_n h ex19
      refine lv_istore (lv' := [(4, .int x19), (0, .ref (g q0)), (2, .int y2), (3, .int y3), (5, .int y5), (6, .int z6)]) hx hb dX6_leastBeside_80 hl (by decide) rfl (fun ls hl => ?_)
      obtain ⟨x20, ex20, h⟩ := mlet_e h
      refine lv_iinc (v := x20) (lv' := [(6, .int x20), (4, .int x19), (0, .ref (g q0)), (2, .int y2), (3, .int y3), (5, .int y5)]) hx hb dX6_leastBeside_82 hl (k := 5) rfl (by rw [ex20]; rfl) (by decide) rfl (fun ls hl => ?_)
      refine lv_goto (tgt := 46) hx hb dX6_leastBeside_85 (by decide) ?_
      exact ih x19 x20 h _ _ _ hG (lv_sub hl [2, 3, 4, 1, 5, 0] rfl)
set_option maxHeartbeats 4000000 in
set_option maxRecDepth 100000 in
theorem m_X6_leastBeside_L24_w {p : Program} {l : Launch} {e : Env} {s : State} {m : MethodId} {args : Array Value} {below : List Frame} {meth : Method} {c : Code} {Q : State → Prop} {D : va_G} {ca : vCA} {g : Nat → Nat} {fu : Nat} {M : Mem} {q0 : Nat} {y2 : Int32} {y3 : Int32} {out : Int32} (F : FX p m c cX6_leastBeside 7 s D ca g RX6) (hq0 : kd q0 = 6)
    (K0 : ∀ (u4 : Int32) (H : Heap) (locs : List Loc) (ls : Array Slot), out = u4 → GW D ca g s M H locs → lv_has ls 7 [(4, .int u4)] → W p l e ({ frames := 1, cells := 0, slots := 0, locals := 21 }) s m args below meth c H locs 0 0 Q (F0 m 94 ls [])) :
    ∀ (n : Nat) (z4 : Int32) (z5 : Int32), m_X6_leastBeside_L24 fu M q0 y2 y3 n z4 z5 = some out → ∀ (H : Heap) (locs : List Loc) (ls : Array Slot), GW D ca g s M H locs → lv_has ls 7 [(0, .ref (g q0)), (2, .int y2), (3, .int y3), (4, .int z4), (5, .int z5)] → W p l e ({ frames := 1, cells := 0, slots := 0, locals := 21 }) s m args below meth c H locs 0 0 Q (F0 m 24 ls []) := by
  have hx := F.1
  have hb := F.2.1
  intro n
  induction n with
  | zero =>
    intro z4 z5 h
    exact absurd h (by simp [m_X6_leastBeside_L24])
  | succ n ih =>
    intro z4 z5 h H locs ls hG hl
    rw [m_X6_leastBeside_L24] at h
    refine lv_iload hx hb dX6_leastBeside_24 (lv_at hl 4 rfl) ?_
    refine lv_bipush (v := 11) hx hb dX6_leastBeside_26 (by decide) ?_
    refine lv_iload_n hx hb dX6_leastBeside_28 rfl (lv_at hl 1 rfl) ?_
    refine lv_iconst (v := 1) hx hb dX6_leastBeside_29 (by decide) ?_
    refine lv_iadd hx hb dX6_leastBeside_30 ?_
    obtain ⟨x7, ex7, h⟩ := mlet_e h
    rw [← ex7]
    refine va_mmin hx hb (F.2.2.1.trans hl.1.symm) F.2.2.2.1 (kw852 F.kd) (kw196 F.kd) (kw15 F.kd) (kw197 F.kd) (Nat.le_of_ble_eq_true rfl) (Nat.le_of_ble_eq_true rfl) (Nat.zero_le _) (Nat.zero_le _) dX6_leastBeside_31 ?_
    refine lv_topi (fun x8 ex8 => ?_)
    have h := mlet_n h ex8
    refine lv_icmp_gt (tgt := 94) hx hb dX6_leastBeside_34 (by decide) (fun c9 => ?_) (fun c9 => ?_)
    · have h := ite_t h c9
      exact K0 _ _ _ _ (som1 h).symm hG (lv_sub hl [3] rfl)
    · have h := ite_f h c9
      refine lv_iconst (v := 0) hx hb dX6_leastBeside_37 (by decide) ?_
      refine lv_iload_n hx hb dX6_leastBeside_38 rfl (lv_at hl 2 rfl) ?_
      refine lv_iconst (v := 1) hx hb dX6_leastBeside_39 (by decide) ?_
      refine lv_isub hx hb dX6_leastBeside_40 ?_
      obtain ⟨x10, ex10, h⟩ := mlet_e h
      rw [← ex10]
      refine va_mmax hx hb (F.2.2.1.trans hl.1.symm) F.2.2.2.1 (kw816 F.kd) (kw193 F.kd) (kw15 F.kd) (kw194 F.kd) (Nat.le_of_ble_eq_true rfl) (Nat.le_of_ble_eq_true rfl) (Nat.zero_le _) (Nat.zero_le _) dX6_leastBeside_41 ?_
      refine lv_topi (fun x11 ex11 => ?_)
      have h := mlet_n h ex11
      refine lv_istore (lv' := [(6, .int x11), (0, .ref (g q0)), (2, .int y2), (3, .int y3), (4, .int z4), (5, .int z5)]) hx hb dX6_leastBeside_44 hl (by decide) rfl (fun ls hl => ?_)
      obtain ⟨o21, ho22, h⟩ := cb1_e h
      refine m_X6_leastBeside_L46_w (out := o21) F hq0 ?_ _ _ _ ho22 _ _ _ hG (lv_sub hl [1, 2, 3, 4, 5, 0] rfl)
      · intro x23 H locs ls eo hG hl
        subst o21
        obtain ⟨x24, ex24, h⟩ := mlet_e h
        refine lv_iinc (v := x24) (lv' := [(5, .int x24), (0, .ref (g q0)), (2, .int y2), (3, .int y3), (4, .int x23)]) hx hb dX6_leastBeside_88 hl (k := 4) rfl (by rw [ex24]; rfl) (by decide) rfl (fun ls hl => ?_)
        refine lv_goto (tgt := 24) hx hb dX6_leastBeside_91 (by decide) ?_
        exact ih x23 x24 h _ _ _ hG (lv_sub hl [1, 2, 3, 4, 0] rfl)
set_option maxHeartbeats 4000000 in
set_option maxRecDepth 100000 in
theorem c_X6_leastBeside (l : Launch) (D : va_G) (ca : vCA) (g : Nat → Nat) {fu : Nat} {M : Mem} {a0 : Nat} {x1 : Int32} {r : Int32} (ha0 : kd a0 = 6) (h : m_X6_leastBeside fu M a0 x1 = some r) : cM l yX6_leastBeside cX6_leastBeside 7 (some .int) { frames := 1, cells := 0, slots := 0, locals := 21 } D ca g M [.ref (g a0), .int x1] (fun sz => cQi D ca g sz M r) := by
  refine mk_Met (by decide) (Nat.le_of_ble_eq_true rfl) ?_
  intro p e s m below meth c F hr hlk hnm hG ls hl
  have hx := F.1
  have hb := F.2.1
  replace hl : lv_has ls 7 [(0, .ref (g a0)), (1, .int x1)] := hl
  unfold m_X6_leastBeside at h
  refine lv_iload_n hx hb dX6_leastBeside_0 rfl (lv_at hl 1 rfl) ?_
  refine lv_bipush (v := 12) hx hb dX6_leastBeside_1 (by decide) ?_
  refine lv_irem hx hb dX6_leastBeside_3 (by decide) ?_
  refine lv_topi (fun x3 ex3 => ?_)
  have h := mlet_n h ex3
  refine lv_istore_n (lv' := [(2, .int x3), (0, .ref (g a0)), (1, .int x1)]) hx hb dX6_leastBeside_4 rfl hl (by decide) rfl (fun ls hl => ?_)
  refine lv_iload_n hx hb dX6_leastBeside_5 rfl (lv_at hl 2 rfl) ?_
  refine lv_bipush (v := 12) hx hb dX6_leastBeside_6 (by decide) ?_
  refine lv_idiv hx hb dX6_leastBeside_8 (by decide) ?_
  refine lv_topi (fun x4 ex4 => ?_)
  have h := mlet_n h ex4
  refine lv_istore_n (lv' := [(3, .int x4), (2, .int x3), (0, .ref (g a0)), (1, .int x1)]) hx hb dX6_leastBeside_9 rfl hl (by decide) rfl (fun ls hl => ?_)
  refine lv_sipush (v := 9999) hx hb dX6_leastBeside_10 (by decide) ?_
  refine lv_istore (lv' := [(4, .int 9999), (3, .int x4), (2, .int x3), (0, .ref (g a0)), (1, .int x1)]) hx hb dX6_leastBeside_13 hl (by decide) rfl (fun ls hl => ?_)
  refine lv_iconst (v := 0) hx hb dX6_leastBeside_15 (by decide) ?_
  refine lv_iload_n hx hb dX6_leastBeside_16 rfl (lv_at hl 2 rfl) ?_
  refine lv_iconst (v := 1) hx hb dX6_leastBeside_17 (by decide) ?_
  refine lv_isub hx hb dX6_leastBeside_18 ?_
  obtain ⟨x5, ex5, h⟩ := mlet_e h
  rw [← ex5]
  refine va_mmax hx hb (F.2.2.1.trans hl.1.symm) F.2.2.2.1 (kw816 F.kd) (kw193 F.kd) (kw15 F.kd) (kw194 F.kd) (Nat.le_of_ble_eq_true rfl) (Nat.le_of_ble_eq_true rfl) (Nat.zero_le _) (Nat.zero_le _) dX6_leastBeside_19 ?_
  refine lv_topi (fun x6 ex6 => ?_)
  have h := mlet_n h ex6
  refine lv_istore (lv' := [(5, .int x6), (4, .int 9999), (3, .int x4), (2, .int x3), (0, .ref (g a0)), (1, .int x1)]) hx hb dX6_leastBeside_22 hl (by decide) rfl (fun ls hl => ?_)
  obtain ⟨o25, ho26, h⟩ := cb1_e h
  refine m_X6_leastBeside_L24_w (out := o25) F ha0 ?_ _ _ _ ho26 _ _ _ hG (lv_sub hl [4, 3, 2, 1, 0] rfl)
  · intro x27 H locs ls eo hG hl
    subst o25
    refine lv_iload hx hb dX6_leastBeside_94 (lv_at hl 0 rfl) ?_
    obtain rfl := som1 h
    exact end_i F hr hlk hG dX6_leastBeside_96
set_option maxHeartbeats 4000000 in
set_option maxRecDepth 100000 in
theorem m_X6_shuts_L2_w {p : Program} {l : Launch} {e : Env} {s : State} {m : MethodId} {args : Array Value} {below : List Frame} {meth : Method} {c : Code} {Q : State → Prop} {D : va_G} {ca : vCA} {g : Nat → Nat} {fu : Nat} {q0 : Nat} {out : Mem} (F : FX p m c cX6_shuts 4 s D ca g RX6) (hq0 : kd q0 = 6)
    (K0 : ∀ (M1 : Mem) (H : Heap) (locs : List Loc) (ls : Array Slot), out = M1 → GW D ca g s M1 H locs → lv_has ls 4 [(0, .ref (g q0))] → W p l e ({ frames := 2, cells := 0, slots := 0, locals := 47 }) s m args below meth c H locs 0 0 Q (F0 m 40 ls [])) :
    ∀ (n : Nat) (M : Mem) (z1 : Int32), m_X6_shuts_L2 fu q0 n M z1 = some out → ∀ (H : Heap) (locs : List Loc) (ls : Array Slot), GW D ca g s M H locs → lv_has ls 4 [(0, .ref (g q0)), (1, .int z1)] → W p l e ({ frames := 2, cells := 0, slots := 0, locals := 47 }) s m args below meth c H locs 0 0 Q (F0 m 2 ls []) := by
  have hx := F.1
  have hb := F.2.1
  intro n
  induction n with
  | zero =>
    intro M z1 h
    exact absurd h (by simp [m_X6_shuts_L2])
  | succ n ih =>
    intro M z1 h H locs ls hG hl
    rw [m_X6_shuts_L2] at h
    refine lv_iload_n hx hb dX6_shuts_2 rfl (lv_at hl 1 rfl) ?_
    refine lv_bipush (v := 108) hx hb dX6_shuts_3 (by decide) ?_
    refine lv_icmp_ge (tgt := 40) hx hb dX6_shuts_5 (by decide) (fun c2 => ?_) (fun c2 => ?_)
    · have h := ite_t h c2
      exact K0 _ _ _ _ (som1 h).symm hG (lv_sub hl [0] rfl)
    · have h := ite_f h c2
      refine lv_aload_n hx hb dX6_shuts_8 rfl (lv_at hl 0 rfl) ?_
      have hk3 := (show kd 44 = 7 from rfl)
      refine xg6 F hG hq0 10 (by decide) (kw660 F.kd) (v := .ref (g 44)) rfl dX6_shuts_9 ?_
      have hk4 := kt_m3 hk3
      refine xg7N F hG hk3 5 (by decide) (kw694 F.kd) (v := .ref (g (44 + 3))) rfl dX6_shuts_12 ?_
      refine lv_iload_n hx hb dX6_shuts_15 rfl (lv_at hl 1 rfl) ?_
      refine lv_iload_n hx hb dX6_shuts_16 rfl (lv_at hl 1 rfl) ?_
      refine lv_bipush (v := 12) hx hb dX6_shuts_17 (by decide) ?_
      refine lv_icmp_ge (tgt := 30) hx hb dX6_shuts_19 (by decide) (fun c5 => ?_) (fun c5 => ?_)
      · have h := ite_t h c5
        refine lv_sipush (v := 9999) hx hb dX6_shuts_30 (by decide) ?_
        obtain ⟨hi6, h⟩ := chk_e h
        obtain ⟨M7, eM7, h⟩ := mlet_e h
        refine r_ast F hG hk4 hi6 eM7 dX6_shuts_33 (fun H locs hG => ?_)
        obtain ⟨x8, ex8, h⟩ := mlet_e h
        refine lv_iinc (v := x8) (lv' := [(1, .int x8), (0, .ref (g q0))]) hx hb dX6_shuts_34 hl (k := 1) rfl (by rw [ex8]; rfl) (by decide) rfl (fun ls hl => ?_)
        refine lv_goto (tgt := 2) hx hb dX6_shuts_37 (by decide) ?_
        exact ih M7 x8 h _ _ _ hG (lv_sub hl [1, 0] rfl)
      · have h := ite_f h c5
        refine lv_aload_n hx hb dX6_shuts_22 rfl (lv_at hl 0 rfl) ?_
        refine lv_iload_n hx hb dX6_shuts_23 rfl (lv_at hl 1 rfl) ?_
        obtain ⟨r10, hc9, h⟩ := cb1_e h
        refine k_i (r_runV F hG (c_X6_cost l D ca g hq0 hc9) (kd_lt hq0 (by decide)) (gd6 hq0) rfl (kw844 F.kd) (kw846 F.kd) (ks_X6_cost F.kd) (kw8 F.kd) (kw847 F.kd) yd_X6_cost ⟨Nat.le_of_ble_eq_true rfl, Nat.le_of_ble_eq_true rfl⟩ rfl hl.1 rfl (Nat.le_of_ble_eq_true rfl) dX6_shuts_24 ⟨Nat.le_of_ble_eq_true rfl, Nat.le_of_ble_eq_true rfl⟩) hG (fun H locs hG => ?_)
        refine lv_goto (tgt := 33) hx hb dX6_shuts_27 (by decide) ?_
        obtain ⟨hi11, h⟩ := chk_e h
        obtain ⟨M12, eM12, h⟩ := mlet_e h
        refine r_ast F hG hk4 hi11 eM12 dX6_shuts_33 (fun H locs hG => ?_)
        obtain ⟨x13, ex13, h⟩ := mlet_e h
        refine lv_iinc (v := x13) (lv' := [(1, .int x13), (0, .ref (g q0))]) hx hb dX6_shuts_34 hl (k := 1) rfl (by rw [ex13]; rfl) (by decide) rfl (fun ls hl => ?_)
        refine lv_goto (tgt := 2) hx hb dX6_shuts_37 (by decide) ?_
        exact ih M12 x13 h _ _ _ hG (lv_sub hl [1, 0] rfl)
set_option maxHeartbeats 4000000 in
set_option maxRecDepth 100000 in
theorem m_X6_shuts_L50_w {p : Program} {l : Launch} {e : Env} {s : State} {m : MethodId} {args : Array Value} {below : List Frame} {meth : Method} {c : Code} {Q : State → Prop} {D : va_G} {ca : vCA} {g : Nat → Nat} {fu : Nat} {q0 : Nat} {out : Mem × Int32} (F : FX p m c cX6_shuts 4 s D ca g RX6) (hq0 : kd q0 = 6)
    (K0 : ∀ (M1 : Mem) (u1 : Int32) (H : Heap) (locs : List Loc) (ls : Array Slot), out = (M1, u1) → GW D ca g s M1 H locs → lv_has ls 4 [(0, .ref (g q0)), (1, .int u1)] → W p l e ({ frames := 2, cells := 0, slots := 0, locals := 47 }) s m args below meth c H locs 0 0 Q (F0 m 117 ls [])) :
    ∀ (n : Nat) (M : Mem) (z1 : Int32) (z2 : Int32), m_X6_shuts_L50 fu q0 n M z1 z2 = some out → ∀ (H : Heap) (locs : List Loc) (ls : Array Slot), GW D ca g s M H locs → lv_has ls 4 [(0, .ref (g q0)), (1, .int z1), (2, .int z2)] → W p l e ({ frames := 2, cells := 0, slots := 0, locals := 47 }) s m args below meth c H locs 0 0 Q (F0 m 50 ls []) := by
  have hx := F.1
  have hb := F.2.1
  intro n
  induction n with
  | zero =>
    intro M z1 z2 h
    exact absurd h (by simp [m_X6_shuts_L50])
  | succ n ih =>
    intro M z1 z2 h H locs ls hG hl
    rw [m_X6_shuts_L50] at h
    refine lv_iload_n hx hb dX6_shuts_50 rfl (lv_at hl 2 rfl) ?_
    refine lv_bipush (v := 108) hx hb dX6_shuts_51 (by decide) ?_
    refine lv_icmp_ge (tgt := 117) hx hb dX6_shuts_53 (by decide) (fun c18 => ?_) (fun c18 => ?_)
    · have h := ite_t h c18
      exact K0 _ _ _ _ _ (som1 h).symm hG (lv_sub hl [0, 1] rfl)
    · have h := ite_f h c18
      refine lv_aload_n hx hb dX6_shuts_56 rfl (lv_at hl 0 rfl) ?_
      have hk19 := (show kd 44 = 7 from rfl)
      refine xg6 F hG hq0 10 (by decide) (kw660 F.kd) (v := .ref (g 44)) rfl dX6_shuts_57 ?_
      have hk20 := kt_m3 hk19
      refine xg7N F hG hk19 5 (by decide) (kw694 F.kd) (v := .ref (g (44 + 3))) rfl dX6_shuts_60 ?_
      refine lv_iload_n hx hb dX6_shuts_63 rfl (lv_at hl 2 rfl) ?_
      obtain ⟨hi21, h⟩ := chk_e h
      refine r_ald F hG hk20 hi21 dX6_shuts_64 ?_
      refine lv_aload_n hx hb dX6_shuts_65 rfl (lv_at hl 0 rfl) ?_
      refine lv_iload_n hx hb dX6_shuts_66 rfl (lv_at hl 2 rfl) ?_
      obtain ⟨r23, hc22, h⟩ := cb1_e h
      refine k_i (r_runV F hG (c_X6_leastBeside l D ca g hq0 hc22) (kd_lt hq0 (by decide)) (gd6 hq0) rfl (kw848 F.kd) (kw850 F.kd) (ks_X6_leastBeside F.kd) (kw8 F.kd) (kw851 F.kd) yd_X6_leastBeside ⟨Nat.le_of_ble_eq_true rfl, Nat.le_of_ble_eq_true rfl⟩ rfl hl.1 rfl (Nat.le_of_ble_eq_true rfl) dX6_shuts_67 ⟨Nat.le_of_ble_eq_true rfl, Nat.le_of_ble_eq_true rfl⟩) hG (fun H locs hG => ?_)
      refine lv_aload_n hx hb dX6_shuts_70 rfl (lv_at hl 0 rfl) ?_
      refine lv_iload_n hx hb dX6_shuts_71 rfl (lv_at hl 2 rfl) ?_
      obtain ⟨r25, hc24, h⟩ := cb1_e h
      refine k_i (r_runV F hG (c_X6_cost l D ca g hq0 hc24) (kd_lt hq0 (by decide)) (gd6 hq0) rfl (kw844 F.kd) (kw846 F.kd) (ks_X6_cost F.kd) (kw8 F.kd) (kw847 F.kd) yd_X6_cost ⟨Nat.le_of_ble_eq_true rfl, Nat.le_of_ble_eq_true rfl⟩ rfl hl.1 rfl (Nat.le_of_ble_eq_true rfl) dX6_shuts_72 ⟨Nat.le_of_ble_eq_true rfl, Nat.le_of_ble_eq_true rfl⟩) hG (fun H locs hG => ?_)
      refine lv_iadd hx hb dX6_shuts_75 ?_
      obtain ⟨x26, ex26, h⟩ := mlet_e h
      rw [← ex26]
      obtain ⟨x27, ex27, h⟩ := mlet_e h
      rw [← ex27]
      refine va_mmin hx hb (F.2.2.1.trans hl.1.symm) F.2.2.2.1 (kw852 F.kd) (kw196 F.kd) (kw15 F.kd) (kw197 F.kd) (Nat.le_of_ble_eq_true rfl) (Nat.le_of_ble_eq_true rfl) (Nat.zero_le _) (Nat.zero_le _) dX6_shuts_76 ?_
      refine lv_topi (fun x28 ex28 => ?_)
      have h := mlet_n h ex28
      refine lv_istore_n (lv' := [(3, .int x28), (0, .ref (g q0)), (1, .int z1), (2, .int z2)]) hx hb dX6_shuts_79 rfl hl (by decide) rfl (fun ls hl => ?_)
      refine lv_iload_n hx hb dX6_shuts_80 rfl (lv_at hl 2 rfl) ?_
      refine lv_iload_n hx hb dX6_shuts_81 rfl (lv_at hl 0 rfl) ?_
      refine lv_aload_n hx hb dX6_shuts_82 rfl (lv_at hl 1 rfl) ?_
      have hk29 := (show kd 44 = 7 from rfl)
      refine xg6 F hG hq0 10 (by decide) (kw660 F.kd) (v := .ref (g 44)) rfl dX6_shuts_83 ?_
      have hk30 := kt_m3 hk29
      refine xg7N F hG hk29 5 (by decide) (kw694 F.kd) (v := .ref (g (44 + 3))) rfl dX6_shuts_86 ?_
      refine lv_iload_n hx hb dX6_shuts_89 rfl (lv_at hl 3 rfl) ?_
      obtain ⟨hi31, h⟩ := chk_e h
      refine r_ald F hG hk30 hi31 dX6_shuts_90 ?_
      refine lv_icmp_ge (tgt := 98) hx hb dX6_shuts_91 (by decide) (fun c32 => ?_) (fun c32 => ?_)
      · have h := ite_t h c32
        refine lv_iconst (v := 0) hx hb dX6_shuts_98 (by decide) ?_
        refine lv_ior hx hb dX6_shuts_99 ?_
        refine lv_topi (fun x33 ex33 => ?_)
        have h := mlet_n h ex33
        refine lv_istore_n (lv' := [(1, .int x33), (3, .int x28), (0, .ref (g q0)), (2, .int z2)]) hx hb dX6_shuts_100 rfl hl (by decide) rfl (fun ls hl => ?_)
        refine lv_aload_n hx hb dX6_shuts_101 rfl (lv_at hl 2 rfl) ?_
        have hk34 := (show kd 44 = 7 from rfl)
        refine xg6 F hG hq0 10 (by decide) (kw660 F.kd) (v := .ref (g 44)) rfl dX6_shuts_102 ?_
        have hk35 := kt_m3 hk34
        refine xg7N F hG hk34 5 (by decide) (kw694 F.kd) (v := .ref (g (44 + 3))) rfl dX6_shuts_105 ?_
        refine lv_iload_n hx hb dX6_shuts_108 rfl (lv_at hl 3 rfl) ?_
        refine lv_iload_n hx hb dX6_shuts_109 rfl (lv_at hl 1 rfl) ?_
        obtain ⟨hi36, h⟩ := chk_e h
        obtain ⟨M37, eM37, h⟩ := mlet_e h
        refine r_ast F hG hk35 hi36 eM37 dX6_shuts_110 (fun H locs hG => ?_)
        obtain ⟨x38, ex38, h⟩ := mlet_e h
        refine lv_iinc (v := x38) (lv' := [(2, .int x38), (1, .int x33), (3, .int x28), (0, .ref (g q0))]) hx hb dX6_shuts_111 hl (k := 3) rfl (by rw [ex38]; rfl) (by decide) rfl (fun ls hl => ?_)
        refine lv_goto (tgt := 50) hx hb dX6_shuts_114 (by decide) ?_
        exact ih M37 x33 x38 h _ _ _ hG (lv_sub hl [3, 1, 0] rfl)
      · have h := ite_f h c32
        refine lv_iconst (v := 1) hx hb dX6_shuts_94 (by decide) ?_
        refine lv_goto (tgt := 99) hx hb dX6_shuts_95 (by decide) ?_
        refine lv_ior hx hb dX6_shuts_99 ?_
        refine lv_topi (fun x39 ex39 => ?_)
        have h := mlet_n h ex39
        refine lv_istore_n (lv' := [(1, .int x39), (3, .int x28), (0, .ref (g q0)), (2, .int z2)]) hx hb dX6_shuts_100 rfl hl (by decide) rfl (fun ls hl => ?_)
        refine lv_aload_n hx hb dX6_shuts_101 rfl (lv_at hl 2 rfl) ?_
        have hk40 := (show kd 44 = 7 from rfl)
        refine xg6 F hG hq0 10 (by decide) (kw660 F.kd) (v := .ref (g 44)) rfl dX6_shuts_102 ?_
        have hk41 := kt_m3 hk40
        refine xg7N F hG hk40 5 (by decide) (kw694 F.kd) (v := .ref (g (44 + 3))) rfl dX6_shuts_105 ?_
        refine lv_iload_n hx hb dX6_shuts_108 rfl (lv_at hl 3 rfl) ?_
        refine lv_iload_n hx hb dX6_shuts_109 rfl (lv_at hl 1 rfl) ?_
        obtain ⟨hi42, h⟩ := chk_e h
        obtain ⟨M43, eM43, h⟩ := mlet_e h
        refine r_ast F hG hk41 hi42 eM43 dX6_shuts_110 (fun H locs hG => ?_)
        obtain ⟨x44, ex44, h⟩ := mlet_e h
        refine lv_iinc (v := x44) (lv' := [(2, .int x44), (1, .int x39), (3, .int x28), (0, .ref (g q0))]) hx hb dX6_shuts_111 hl (k := 3) rfl (by rw [ex44]; rfl) (by decide) rfl (fun ls hl => ?_)
        refine lv_goto (tgt := 50) hx hb dX6_shuts_114 (by decide) ?_
        exact ih M43 x39 x44 h _ _ _ hG (lv_sub hl [3, 1, 0] rfl)
set_option maxHeartbeats 4000000 in
set_option maxRecDepth 100000 in
theorem m_X6_shuts_L42_w {p : Program} {l : Launch} {e : Env} {s : State} {m : MethodId} {args : Array Value} {below : List Frame} {meth : Method} {c : Code} {Q : State → Prop} {D : va_G} {ca : vCA} {g : Nat → Nat} {fu : Nat} {q0 : Nat} {out : Mem} (F : FX p m c cX6_shuts 4 s D ca g RX6) (hq0 : kd q0 = 6)
    (K0 : ∀ (M1 : Mem) (H : Heap) (locs : List Loc) (ls : Array Slot), out = M1 → GW D ca g s M1 H locs → lv_has ls 4 [(0, .ref (g q0))] → W p l e ({ frames := 2, cells := 0, slots := 0, locals := 47 }) s m args below meth c H locs 0 0 Q (F0 m 120 ls [])) :
    ∀ (n : Nat) (M : Mem) (z1 : Int32), m_X6_shuts_L42 fu q0 n M z1 = some out → ∀ (H : Heap) (locs : List Loc) (ls : Array Slot), GW D ca g s M H locs → lv_has ls 4 [(0, .ref (g q0)), (1, .int z1)] → W p l e ({ frames := 2, cells := 0, slots := 0, locals := 47 }) s m args below meth c H locs 0 0 Q (F0 m 42 ls []) := by
  have hx := F.1
  have hb := F.2.1
  intro n
  induction n with
  | zero =>
    intro M z1 h
    exact absurd h (by simp [m_X6_shuts_L42])
  | succ n ih =>
    intro M z1 h H locs ls hG hl
    rw [m_X6_shuts_L42] at h
    refine lv_iload_n hx hb dX6_shuts_42 rfl (lv_at hl 1 rfl) ?_
    refine lv_if_eq (tgt := 120) hx hb dX6_shuts_43 (by decide) (fun c17 => ?_) (fun c17 => ?_)
    · have h := ite_t h c17
      exact K0 _ _ _ _ (som1 h).symm hG (lv_sub hl [0] rfl)
    · have h := ite_f h c17
      refine lv_iconst (v := 0) hx hb dX6_shuts_46 (by decide) ?_
      refine lv_istore_n (lv' := [(1, .int 0), (0, .ref (g q0))]) hx hb dX6_shuts_47 rfl hl (by decide) rfl (fun ls hl => ?_)
      refine lv_iconst (v := 0) hx hb dX6_shuts_48 (by decide) ?_
      refine lv_istore_n (lv' := [(2, .int 0), (1, .int 0), (0, .ref (g q0))]) hx hb dX6_shuts_49 rfl hl (by decide) rfl (fun ls hl => ?_)
      obtain ⟨o45, ho46, h⟩ := cb1_e h
      refine m_X6_shuts_L50_w (out := o45) F hq0 ?_ _ _ _ _ ho46 _ _ _ hG (lv_sub hl [2, 1, 0] rfl)
      · intro M47 x48 H locs ls eo hG hl
        subst o45
        have h := up2_e h
        refine lv_goto (tgt := 42) hx hb dX6_shuts_117 (by decide) ?_
        exact ih M47 x48 h _ _ _ hG (lv_sub hl [0, 1] rfl)
set_option maxHeartbeats 4000000 in
set_option maxRecDepth 100000 in
theorem m_X6_shuts_L127_w {p : Program} {l : Launch} {e : Env} {s : State} {m : MethodId} {args : Array Value} {below : List Frame} {meth : Method} {c : Code} {Q : State → Prop} {D : va_G} {ca : vCA} {g : Nat → Nat} {fu : Nat} {M : Mem} {q0 : Nat} {out : Int32} (F : FX p m c cX6_shuts 4 s D ca g RX6) (hq0 : kd q0 = 6)
    (K0 : ∀ (u2 : Int32) (H : Heap) (locs : List Loc) (ls : Array Slot), out = u2 → GW D ca g s M H locs → lv_has ls 4 [(2, .int u2)] → W p l e ({ frames := 2, cells := 0, slots := 0, locals := 47 }) s m args below meth c H locs 0 0 Q (F0 m 153 ls [])) :
    ∀ (n : Nat) (z2 : Int32) (z3 : Int32), m_X6_shuts_L127 fu M q0 n z2 z3 = some out → ∀ (H : Heap) (locs : List Loc) (ls : Array Slot), GW D ca g s M H locs → lv_has ls 4 [(0, .ref (g q0)), (2, .int z2), (3, .int z3)] → W p l e ({ frames := 2, cells := 0, slots := 0, locals := 47 }) s m args below meth c H locs 0 0 Q (F0 m 127 ls []) := by
  have hx := F.1
  have hb := F.2.1
  intro n
  induction n with
  | zero =>
    intro z2 z3 h
    exact absurd h (by simp [m_X6_shuts_L127])
  | succ n ih =>
    intro z2 z3 h H locs ls hG hl
    rw [m_X6_shuts_L127] at h
    refine lv_iload_n hx hb dX6_shuts_127 rfl (lv_at hl 2 rfl) ?_
    refine lv_bipush (v := 108) hx hb dX6_shuts_128 (by decide) ?_
    refine lv_icmp_ge (tgt := 153) hx hb dX6_shuts_130 (by decide) (fun c52 => ?_) (fun c52 => ?_)
    · have h := ite_t h c52
      exact K0 _ _ _ _ (som1 h).symm hG (lv_sub hl [1] rfl)
    · have h := ite_f h c52
      refine lv_iload_n hx hb dX6_shuts_133 rfl (lv_at hl 1 rfl) ?_
      refine lv_aload_n hx hb dX6_shuts_134 rfl (lv_at hl 0 rfl) ?_
      have hk53 := (show kd 44 = 7 from rfl)
      refine xg6 F hG hq0 10 (by decide) (kw660 F.kd) (v := .ref (g 44)) rfl dX6_shuts_135 ?_
      have hk54 := kt_m3 hk53
      refine xg7N F hG hk53 5 (by decide) (kw694 F.kd) (v := .ref (g (44 + 3))) rfl dX6_shuts_138 ?_
      refine lv_iload_n hx hb dX6_shuts_141 rfl (lv_at hl 2 rfl) ?_
      obtain ⟨hi55, h⟩ := chk_e h
      refine r_ald F hG hk54 hi55 dX6_shuts_142 ?_
      obtain ⟨x56, ex56, h⟩ := mlet_e h
      rw [← ex56]
      refine va_mmin hx hb (F.2.2.1.trans hl.1.symm) F.2.2.2.1 (kw852 F.kd) (kw196 F.kd) (kw15 F.kd) (kw197 F.kd) (Nat.le_of_ble_eq_true rfl) (Nat.le_of_ble_eq_true rfl) (Nat.zero_le _) (Nat.zero_le _) dX6_shuts_143 ?_
      refine lv_topi (fun x57 ex57 => ?_)
      have h := mlet_n h ex57
      refine lv_istore_n (lv' := [(2, .int x57), (0, .ref (g q0)), (3, .int z3)]) hx hb dX6_shuts_146 rfl hl (by decide) rfl (fun ls hl => ?_)
      obtain ⟨x58, ex58, h⟩ := mlet_e h
      refine lv_iinc (v := x58) (lv' := [(3, .int x58), (2, .int x57), (0, .ref (g q0))]) hx hb dX6_shuts_147 hl (k := 2) rfl (by rw [ex58]; rfl) (by decide) rfl (fun ls hl => ?_)
      refine lv_goto (tgt := 127) hx hb dX6_shuts_150 (by decide) ?_
      exact ih x57 x58 h _ _ _ hG (lv_sub hl [2, 1, 0] rfl)
set_option maxHeartbeats 4000000 in
set_option maxRecDepth 100000 in
theorem c_X6_shuts (l : Launch) (D : va_G) (ca : vCA) (g : Nat → Nat) {fu : Nat} {M : Mem} {a0 : Nat} {M' : Mem} {r : Int32} (ha0 : kd a0 = 6) (h : m_X6_shuts fu M a0 = some (M', r)) : cM l yX6_shuts cX6_shuts 4 (some .int) { frames := 2, cells := 0, slots := 0, locals := 47 } D ca g M [.ref (g a0)] (fun sz => cQi D ca g sz M' r) := by
  refine mk_Met (by decide) (Nat.le_of_ble_eq_true rfl) ?_
  intro p e s m below meth c F hr hlk hnm hG ls hl
  have hx := F.1
  have hb := F.2.1
  replace hl : lv_has ls 4 [(0, .ref (g a0))] := hl
  unfold m_X6_shuts at h
  refine lv_iconst (v := 0) hx hb dX6_shuts_0 (by decide) ?_
  refine lv_istore_n (lv' := [(1, .int 0), (0, .ref (g a0))]) hx hb dX6_shuts_1 rfl hl (by decide) rfl (fun ls hl => ?_)
  obtain ⟨o14, ho15, h⟩ := cb1_e h
  refine m_X6_shuts_L2_w (out := o14) F ha0 ?_ _ _ _ ho15 _ _ _ hG (lv_sub hl [1, 0] rfl)
  · intro M16 H locs ls eo hG hl
    subst o14
    refine lv_iconst (v := 1) hx hb dX6_shuts_40 (by decide) ?_
    refine lv_istore_n (lv' := [(1, .int 1), (0, .ref (g a0))]) hx hb dX6_shuts_41 rfl hl (by decide) rfl (fun ls hl => ?_)
    obtain ⟨o49, ho50, h⟩ := cb1_e h
    refine m_X6_shuts_L42_w (out := o49) F ha0 ?_ _ _ _ ho50 _ _ _ hG (lv_sub hl [1, 0] rfl)
    · intro M51 H locs ls eo hG hl
      subst o49
      refine lv_sipush (v := 9999) hx hb dX6_shuts_120 (by decide) ?_
      refine lv_istore_n (lv' := [(2, .int 9999), (0, .ref (g a0))]) hx hb dX6_shuts_123 rfl hl (by decide) rfl (fun ls hl => ?_)
      refine lv_bipush (v := 96) hx hb dX6_shuts_124 (by decide) ?_
      refine lv_istore_n (lv' := [(3, .int 96), (2, .int 9999), (0, .ref (g a0))]) hx hb dX6_shuts_126 rfl hl (by decide) rfl (fun ls hl => ?_)
      obtain ⟨o59, ho60, h⟩ := cb1_e h
      refine m_X6_shuts_L127_w (out := o59) F ha0 ?_ _ _ _ ho60 _ _ _ hG (lv_sub hl [2, 1, 0] rfl)
      · intro x61 H locs ls eo hG hl
        subst o59
        refine lv_iload_n hx hb dX6_shuts_153 rfl (lv_at hl 0 rfl) ?_
        obtain ⟨rfl, rfl⟩ := som2 h
        exact end_i F hr hlk hG dX6_shuts_154

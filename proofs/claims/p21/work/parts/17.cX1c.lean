set_option maxHeartbeats 4000000 in
set_option maxRecDepth 100000 in
theorem c_X1_tryGo (l : Launch) (D : va_G) (ca : vCA) (g : Nat → Nat) {fu : Nat} {M : Mem} {a0 : Nat} {a1 : Nat} {x2 : Int32} {x3 : Int32} {M' : Mem} {r : Int32} (ha0 : kd a0 = 1) (ha1 : kd a1 = 0) (h : m_X1_tryGo fu M a0 a1 x2 x3 = some (M', r)) : cM l yX1_tryGo cX1_tryGo 7 (some .boolean) { frames := 1, cells := 0, slots := 0, locals := 22 } D ca g M [.ref (g a0), .ref (g a1), .int x2, .int x3] (fun sz => cQi D ca g sz M' r) := by
  refine mk_Met (by decide) (Nat.le_of_ble_eq_true rfl) ?_
  intro p e s m below meth c F hr hlk hnm hG ls hl
  have hx := F.1
  have hb := F.2.1
  replace hl : lv_has ls 7 [(0, .ref (g a0)), (1, .ref (g a1)), (2, .int x2), (3, .int x3)] := hl
  unfold m_X1_tryGo at h
  refine lv_aload_n hx hb dX1_tryGo_0 rfl (lv_at hl 0 rfl) ?_
  have hk5 := kt_quarter ha0
  refine xg1 F hG ha0 0 (by decide) (kw466 F.kd) (v := .ref (g (a0 + 1))) rfl dX1_tryGo_1 ?_
  refine lv_iload_n hx hb dX1_tryGo_4 rfl (lv_at hl 2 rfl) ?_
  obtain ⟨r7, hc6, h⟩ := cb1_e h
  refine k_i (r_runVN F hG (c_X3_at l D ca g hk5 hc6) (kd_lt hk5 (by decide)) (gd3 hk5) rfl (kw140 F.kd) (kw95 F.kd) (ks_X3_at F.kd) (kw3 F.kd) (kw97 F.kd) yd_X3_at ⟨Nat.le_of_ble_eq_true rfl, Nat.le_of_ble_eq_true rfl⟩ rfl hl.1 rfl (Nat.le_of_ble_eq_true rfl) dX1_tryGo_5 ⟨Nat.le_of_ble_eq_true rfl, Nat.le_of_ble_eq_true rfl⟩) hG (fun H locs hG => ?_)
  refine lv_istore (lv' := [(4, .int r7), (0, .ref (g a0)), (1, .ref (g a1)), (2, .int x2), (3, .int x3)]) hx hb dX1_tryGo_8 hl (by decide) rfl (fun ls hl => ?_)
  refine lv_aload_n hx hb dX1_tryGo_10 rfl (lv_at hl 1 rfl) ?_
  have hk8 := kt_quarter ha0
  refine xg1 F hG ha0 0 (by decide) (kw466 F.kd) (v := .ref (g (a0 + 1))) rfl dX1_tryGo_11 ?_
  refine lv_iload_n hx hb dX1_tryGo_14 rfl (lv_at hl 4 rfl) ?_
  obtain ⟨r10, hc9, h⟩ := cb1_e h
  refine k_i (r_runVN F hG (c_X3_at l D ca g hk8 hc9) (kd_lt hk8 (by decide)) (gd3 hk8) rfl (kw140 F.kd) (kw95 F.kd) (ks_X3_at F.kd) (kw3 F.kd) (kw97 F.kd) yd_X3_at ⟨Nat.le_of_ble_eq_true rfl, Nat.le_of_ble_eq_true rfl⟩ rfl hl.1 rfl (Nat.le_of_ble_eq_true rfl) dX1_tryGo_15 ⟨Nat.le_of_ble_eq_true rfl, Nat.le_of_ble_eq_true rfl⟩) hG (fun H locs hG => ?_)
  refine lv_istore (lv' := [(5, .int r10), (4, .int r7), (0, .ref (g a0)), (1, .ref (g a1)), (2, .int x2), (3, .int x3)]) hx hb dX1_tryGo_18 hl (by decide) rfl (fun ls hl => ?_)
  refine lv_iload hx hb dX1_tryGo_20 (lv_at hl 1 rfl) ?_
  refine lv_if_le (tgt := 63) hx hb dX1_tryGo_22 (by decide) (fun c11 => ?_) (fun c11 => ?_)
  · have h := ite_t h c11
    refine lv_iconst (v := 0) hx hb dX1_tryGo_63 (by decide) ?_
    refine lv_istore (lv' := [(6, .int 0), (5, .int r10), (4, .int r7), (0, .ref (g a0)), (1, .ref (g a1)), (2, .int x2), (3, .int x3)]) hx hb dX1_tryGo_64 hl (by decide) rfl (fun ls hl => ?_)
    refine lv_iload hx hb dX1_tryGo_66 (lv_at hl 2 rfl) ?_
    refine lv_if_eq (tgt := 78) hx hb dX1_tryGo_68 (by decide) (fun c12 => ?_) (fun c12 => ?_)
    · have h := ite_t h c12
      refine lv_iload hx hb dX1_tryGo_78 (lv_at hl 0 rfl) ?_
      refine lv_if_eq (tgt := 105) hx hb dX1_tryGo_80 (by decide) (fun _ => ?_) (fun c13 => absurd c13 (by decide))
      refine lv_aload_n hx hb dX1_tryGo_105 rfl (lv_at hl 4 rfl) ?_
      refine lv_iload_n hx hb dX1_tryGo_106 rfl (lv_at hl 5 rfl) ?_
      obtain ⟨M14, eM14, h⟩ := mlet_e h
      refine xp0N F hG ha1 eM14 rfl (by decide) (kw418 F.kd) rfl rfl rfl dX1_tryGo_107 (fun H locs hG => ?_)
      refine lv_iconst (v := 1) hx hb dX1_tryGo_110 (by decide) ?_
      obtain ⟨rfl, rfl⟩ := som2 h
      exact end_z F hr hlk (by decide) hG dX1_tryGo_111
    · have h := ite_f h c12
      refine lv_iload hx hb dX1_tryGo_71 (lv_at hl 0 rfl) ?_
      refine lv_if_ne (tgt := 78) hx hb dX1_tryGo_73 (by decide) (fun c15 => absurd c15 (by decide)) (fun _ => ?_)
      refine lv_iconst (v := 0) hx hb dX1_tryGo_76 (by decide) ?_
      obtain ⟨rfl, rfl⟩ := som2 h
      exact end_z F hr hlk (by decide) hG dX1_tryGo_77
  · have h := ite_f h c11
    refine lv_aload_n hx hb dX1_tryGo_25 rfl (lv_at hl 3 rfl) ?_
    refine xg0N F hG ha1 1 (by decide) (kw421 F.kd) (v := .int (M a1 1)) rfl dX1_tryGo_26 ?_
    refine lv_iconst (v := 2) hx hb dX1_tryGo_29 (by decide) ?_
    refine lv_iload hx hb dX1_tryGo_30 (lv_at hl 1 rfl) ?_
    refine lv_imul hx hb dX1_tryGo_32 ?_
    refine lv_icmp_lt (tgt := 63) hx hb dX1_tryGo_33 (by decide) (fun c16 => ?_) (fun c16 => ?_)
    · have h := ite_t h c16
      refine lv_iconst (v := 0) hx hb dX1_tryGo_63 (by decide) ?_
      refine lv_istore (lv' := [(6, .int 0), (5, .int r10), (4, .int r7), (0, .ref (g a0)), (1, .ref (g a1)), (2, .int x2), (3, .int x3)]) hx hb dX1_tryGo_64 hl (by decide) rfl (fun ls hl => ?_)
      refine lv_iload hx hb dX1_tryGo_66 (lv_at hl 2 rfl) ?_
      refine lv_if_eq (tgt := 78) hx hb dX1_tryGo_68 (by decide) (fun c17 => ?_) (fun c17 => ?_)
      · have h := ite_t h c17
        refine lv_iload hx hb dX1_tryGo_78 (lv_at hl 0 rfl) ?_
        refine lv_if_eq (tgt := 105) hx hb dX1_tryGo_80 (by decide) (fun _ => ?_) (fun c18 => absurd c18 (by decide))
        refine lv_aload_n hx hb dX1_tryGo_105 rfl (lv_at hl 4 rfl) ?_
        refine lv_iload_n hx hb dX1_tryGo_106 rfl (lv_at hl 5 rfl) ?_
        obtain ⟨M19, eM19, h⟩ := mlet_e h
        refine xp0N F hG ha1 eM19 rfl (by decide) (kw418 F.kd) rfl rfl rfl dX1_tryGo_107 (fun H locs hG => ?_)
        refine lv_iconst (v := 1) hx hb dX1_tryGo_110 (by decide) ?_
        obtain ⟨rfl, rfl⟩ := som2 h
        exact end_z F hr hlk (by decide) hG dX1_tryGo_111
      · have h := ite_f h c17
        refine lv_iload hx hb dX1_tryGo_71 (lv_at hl 0 rfl) ?_
        refine lv_if_ne (tgt := 78) hx hb dX1_tryGo_73 (by decide) (fun c20 => absurd c20 (by decide)) (fun _ => ?_)
        refine lv_iconst (v := 0) hx hb dX1_tryGo_76 (by decide) ?_
        obtain ⟨rfl, rfl⟩ := som2 h
        exact end_z F hr hlk (by decide) hG dX1_tryGo_77
    · have h := ite_f h c16
      refine lv_iload hx hb dX1_tryGo_36 (lv_at hl 0 rfl) ?_
      refine lv_iconst (v := (-1)) hx hb dX1_tryGo_38 (by decide) ?_
      refine lv_icmp_eq (tgt := 63) hx hb dX1_tryGo_39 (by decide) (fun c21 => ?_) (fun c21 => ?_)
      · have h := ite_t h c21
        refine lv_iconst (v := 0) hx hb dX1_tryGo_63 (by decide) ?_
        refine lv_istore (lv' := [(6, .int 0), (5, .int r10), (4, .int r7), (0, .ref (g a0)), (1, .ref (g a1)), (2, .int x2), (3, .int x3)]) hx hb dX1_tryGo_64 hl (by decide) rfl (fun ls hl => ?_)
        refine lv_iload hx hb dX1_tryGo_66 (lv_at hl 2 rfl) ?_
        refine lv_if_eq (tgt := 78) hx hb dX1_tryGo_68 (by decide) (fun c22 => ?_) (fun c22 => ?_)
        · have h := ite_t h c22
          refine lv_iload hx hb dX1_tryGo_78 (lv_at hl 0 rfl) ?_
          refine lv_if_eq (tgt := 105) hx hb dX1_tryGo_80 (by decide) (fun _ => ?_) (fun c23 => absurd c23 (by decide))
          refine lv_aload_n hx hb dX1_tryGo_105 rfl (lv_at hl 4 rfl) ?_
          refine lv_iload_n hx hb dX1_tryGo_106 rfl (lv_at hl 5 rfl) ?_
          obtain ⟨M24, eM24, h⟩ := mlet_e h
          refine xp0N F hG ha1 eM24 rfl (by decide) (kw418 F.kd) rfl rfl rfl dX1_tryGo_107 (fun H locs hG => ?_)
          refine lv_iconst (v := 1) hx hb dX1_tryGo_110 (by decide) ?_
          obtain ⟨rfl, rfl⟩ := som2 h
          exact end_z F hr hlk (by decide) hG dX1_tryGo_111
        · have h := ite_f h c22
          refine lv_iload hx hb dX1_tryGo_71 (lv_at hl 0 rfl) ?_
          refine lv_if_ne (tgt := 78) hx hb dX1_tryGo_73 (by decide) (fun c25 => absurd c25 (by decide)) (fun _ => ?_)
          refine lv_iconst (v := 0) hx hb dX1_tryGo_76 (by decide) ?_
          obtain ⟨rfl, rfl⟩ := som2 h
          exact end_z F hr hlk (by decide) hG dX1_tryGo_77
      · have h := ite_f h c21
        refine lv_iload hx hb dX1_tryGo_42 (lv_at hl 0 rfl) ?_
        refine lv_iconst (v := 3) hx hb dX1_tryGo_44 (by decide) ?_
        refine lv_iload hx hb dX1_tryGo_45 (lv_at hl 1 rfl) ?_
        refine lv_isub hx hb dX1_tryGo_47 ?_
        refine lv_icmp_gt (tgt := 63) hx hb dX1_tryGo_48 (by decide) (fun c26 => ?_) (fun c26 => ?_)
        · have h := ite_t h c26
          refine lv_iconst (v := 0) hx hb dX1_tryGo_63 (by decide) ?_
          refine lv_istore (lv' := [(6, .int 0), (5, .int r10), (4, .int r7), (0, .ref (g a0)), (1, .ref (g a1)), (2, .int x2), (3, .int x3)]) hx hb dX1_tryGo_64 hl (by decide) rfl (fun ls hl => ?_)
          refine lv_iload hx hb dX1_tryGo_66 (lv_at hl 2 rfl) ?_
          refine lv_if_eq (tgt := 78) hx hb dX1_tryGo_68 (by decide) (fun c27 => ?_) (fun c27 => ?_)
          · have h := ite_t h c27
            refine lv_iload hx hb dX1_tryGo_78 (lv_at hl 0 rfl) ?_
            refine lv_if_eq (tgt := 105) hx hb dX1_tryGo_80 (by decide) (fun _ => ?_) (fun c28 => absurd c28 (by decide))
            refine lv_aload_n hx hb dX1_tryGo_105 rfl (lv_at hl 4 rfl) ?_
            refine lv_iload_n hx hb dX1_tryGo_106 rfl (lv_at hl 5 rfl) ?_
            obtain ⟨M29, eM29, h⟩ := mlet_e h
            refine xp0N F hG ha1 eM29 rfl (by decide) (kw418 F.kd) rfl rfl rfl dX1_tryGo_107 (fun H locs hG => ?_)
            refine lv_iconst (v := 1) hx hb dX1_tryGo_110 (by decide) ?_
            obtain ⟨rfl, rfl⟩ := som2 h
            exact end_z F hr hlk (by decide) hG dX1_tryGo_111
          · have h := ite_f h c27
            refine lv_iload hx hb dX1_tryGo_71 (lv_at hl 0 rfl) ?_
            refine lv_if_ne (tgt := 78) hx hb dX1_tryGo_73 (by decide) (fun c30 => absurd c30 (by decide)) (fun _ => ?_)
            refine lv_iconst (v := 0) hx hb dX1_tryGo_76 (by decide) ?_
            obtain ⟨rfl, rfl⟩ := som2 h
            exact end_z F hr hlk (by decide) hG dX1_tryGo_77
        · have h := ite_f h c26
          refine lv_aload_n hx hb dX1_tryGo_51 rfl (lv_at hl 2 rfl) ?_
          refine lv_iload_n hx hb dX1_tryGo_52 rfl (lv_at hl 5 rfl) ?_
          obtain ⟨r32, hc31, h⟩ := cb1_e h
          refine k_i (r_runV F hG (c_X1_isTaken l D ca g ha0 hc31) (kd_lt ha0 (by decide)) (gd1 ha0) rfl (kw291 F.kd) (kw293 F.kd) (ks_X1_isTaken F.kd) (kw2 F.kd) (kw294 F.kd) yd_X1_isTaken ⟨Nat.le_of_ble_eq_true rfl, Nat.le_of_ble_eq_true rfl⟩ rfl hl.1 rfl (Nat.le_of_ble_eq_true rfl) dX1_tryGo_53 ⟨Nat.le_of_ble_eq_true rfl, Nat.le_of_ble_eq_true rfl⟩) hG (fun H locs hG => ?_)
          refine lv_if_ne (tgt := 63) hx hb dX1_tryGo_56 (by decide) (fun c33 => ?_) (fun c33 => ?_)
          · have h := ite_f h c33
            refine lv_iconst (v := 0) hx hb dX1_tryGo_63 (by decide) ?_
            refine lv_istore (lv' := [(6, .int 0), (5, .int r10), (4, .int r7), (0, .ref (g a0)), (1, .ref (g a1)), (2, .int x2), (3, .int x3)]) hx hb dX1_tryGo_64 hl (by decide) rfl (fun ls hl => ?_)
            refine lv_iload hx hb dX1_tryGo_66 (lv_at hl 2 rfl) ?_
            refine lv_if_eq (tgt := 78) hx hb dX1_tryGo_68 (by decide) (fun c34 => ?_) (fun c34 => ?_)
            · have h := ite_t h c34
              refine lv_iload hx hb dX1_tryGo_78 (lv_at hl 0 rfl) ?_
              refine lv_if_eq (tgt := 105) hx hb dX1_tryGo_80 (by decide) (fun _ => ?_) (fun c35 => absurd c35 (by decide))
              refine lv_aload_n hx hb dX1_tryGo_105 rfl (lv_at hl 4 rfl) ?_
              refine lv_iload_n hx hb dX1_tryGo_106 rfl (lv_at hl 5 rfl) ?_
              obtain ⟨M36, eM36, h⟩ := mlet_e h
              refine xp0N F hG ha1 eM36 rfl (by decide) (kw418 F.kd) rfl rfl rfl dX1_tryGo_107 (fun H locs hG => ?_)
              refine lv_iconst (v := 1) hx hb dX1_tryGo_110 (by decide) ?_
              obtain ⟨rfl, rfl⟩ := som2 h
              exact end_z F hr hlk (by decide) hG dX1_tryGo_111
            · have h := ite_f h c34
              refine lv_iload hx hb dX1_tryGo_71 (lv_at hl 0 rfl) ?_
              refine lv_if_ne (tgt := 78) hx hb dX1_tryGo_73 (by decide) (fun c37 => absurd c37 (by decide)) (fun _ => ?_)
              refine lv_iconst (v := 0) hx hb dX1_tryGo_76 (by decide) ?_
              obtain ⟨rfl, rfl⟩ := som2 h
              exact end_z F hr hlk (by decide) hG dX1_tryGo_77
          · have h := ite_t h c33
            refine lv_iconst (v := 1) hx hb dX1_tryGo_59 (by decide) ?_
            refine lv_goto (tgt := 64) hx hb dX1_tryGo_60 (by decide) ?_
            refine lv_istore (lv' := [(6, .int 1), (5, .int r10), (4, .int r7), (0, .ref (g a0)), (1, .ref (g a1)), (2, .int x2), (3, .int x3)]) hx hb dX1_tryGo_64 hl (by decide) rfl (fun ls hl => ?_)
            refine lv_iload hx hb dX1_tryGo_66 (lv_at hl 2 rfl) ?_
            refine lv_if_eq (tgt := 78) hx hb dX1_tryGo_68 (by decide) (fun c38 => ?_) (fun c38 => ?_)
            · have h := ite_t h c38
              refine lv_iload hx hb dX1_tryGo_78 (lv_at hl 0 rfl) ?_
              refine lv_if_eq (tgt := 105) hx hb dX1_tryGo_80 (by decide) (fun c39 => absurd c39 (by decide)) (fun _ => ?_)
              refine lv_aload_n hx hb dX1_tryGo_83 rfl (lv_at hl 3 rfl) ?_
              have hk40 := kt_quarter ha0
              refine xg1 F hG ha0 0 (by decide) (kw466 F.kd) (v := .ref (g (a0 + 1))) rfl dX1_tryGo_84 ?_
              refine lv_iload_n hx hb dX1_tryGo_87 rfl (lv_at hl 5 rfl) ?_
              refine lv_iconst (v := 0) hx hb dX1_tryGo_88 (by decide) ?_
              obtain ⟨M43, hc41, h⟩ := cb1_e h
              refine k_v (r_runVN F hG (c_X3_put l D ca g hk40 hc41) (kd_lt hk40 (by decide)) (gd3 hk40) rfl (kw295 F.kd) (kw297 F.kd) (ks_X3_put F.kd) (kw3 F.kd) (kw298 F.kd) yd_X3_put ⟨Nat.le_of_ble_eq_true rfl, Nat.le_of_ble_eq_true rfl⟩ rfl hl.1 rfl (Nat.le_of_ble_eq_true rfl) dX1_tryGo_89 ⟨Nat.le_of_ble_eq_true rfl, Nat.le_of_ble_eq_true rfl⟩) hG (fun H locs hG => ?_)
              refine lv_aload_n hx hb dX1_tryGo_92 rfl (lv_at hl 3 rfl) ?_
              have hk44 := kt_quarter ha0
              refine xg1 F hG ha0 0 (by decide) (kw466 F.kd) (v := .ref (g (a0 + 1))) rfl dX1_tryGo_93 ?_
              refine lv_iload_n hx hb dX1_tryGo_96 rfl (lv_at hl 6 rfl) ?_
              refine lv_iload hx hb dX1_tryGo_97 (lv_at hl 1 rfl) ?_
              refine lv_iload hx hb dX1_tryGo_99 (lv_at hl 2 rfl) ?_
              refine lv_iadd hx hb dX1_tryGo_101 ?_
              obtain ⟨M47, hc45, h⟩ := cb1_e h
              refine k_v (r_runVN F hG (c_X3_put l D ca g hk44 hc45) (kd_lt hk44 (by decide)) (gd3 hk44) rfl (kw295 F.kd) (kw297 F.kd) (ks_X3_put F.kd) (kw3 F.kd) (kw298 F.kd) yd_X3_put ⟨Nat.le_of_ble_eq_true rfl, Nat.le_of_ble_eq_true rfl⟩ rfl hl.1 rfl (Nat.le_of_ble_eq_true rfl) dX1_tryGo_102 ⟨Nat.le_of_ble_eq_true rfl, Nat.le_of_ble_eq_true rfl⟩) hG (fun H locs hG => ?_)
              refine lv_aload_n hx hb dX1_tryGo_105 rfl (lv_at hl 4 rfl) ?_
              refine lv_iload_n hx hb dX1_tryGo_106 rfl (lv_at hl 5 rfl) ?_
              obtain ⟨M48, eM48, h⟩ := mlet_e h
              refine xp0N F hG ha1 eM48 rfl (by decide) (kw418 F.kd) rfl rfl rfl dX1_tryGo_107 (fun H locs hG => ?_)
              refine lv_iconst (v := 1) hx hb dX1_tryGo_110 (by decide) ?_
              obtain ⟨rfl, rfl⟩ := som2 h
              exact end_z F hr hlk (by decide) hG dX1_tryGo_111
            · have h := ite_f h c38
              refine lv_iload hx hb dX1_tryGo_71 (lv_at hl 0 rfl) ?_
              refine lv_if_ne (tgt := 78) hx hb dX1_tryGo_73 (by decide) (fun _ => ?_) (fun c49 => absurd c49 (by decide))
              refine lv_iload hx hb dX1_tryGo_78 (lv_at hl 0 rfl) ?_
              refine lv_if_eq (tgt := 105) hx hb dX1_tryGo_80 (by decide) (fun c50 => absurd c50 (by decide)) (fun _ => ?_)
              refine lv_aload_n hx hb dX1_tryGo_83 rfl (lv_at hl 3 rfl) ?_
              have hk51 := kt_quarter ha0
              refine xg1 F hG ha0 0 (by decide) (kw466 F.kd) (v := .ref (g (a0 + 1))) rfl dX1_tryGo_84 ?_
              refine lv_iload_n hx hb dX1_tryGo_87 rfl (lv_at hl 5 rfl) ?_
              refine lv_iconst (v := 0) hx hb dX1_tryGo_88 (by decide) ?_
              obtain ⟨M54, hc52, h⟩ := cb1_e h
              refine k_v (r_runVN F hG (c_X3_put l D ca g hk51 hc52) (kd_lt hk51 (by decide)) (gd3 hk51) rfl (kw295 F.kd) (kw297 F.kd) (ks_X3_put F.kd) (kw3 F.kd) (kw298 F.kd) yd_X3_put ⟨Nat.le_of_ble_eq_true rfl, Nat.le_of_ble_eq_true rfl⟩ rfl hl.1 rfl (Nat.le_of_ble_eq_true rfl) dX1_tryGo_89 ⟨Nat.le_of_ble_eq_true rfl, Nat.le_of_ble_eq_true rfl⟩) hG (fun H locs hG => ?_)
              refine lv_aload_n hx hb dX1_tryGo_92 rfl (lv_at hl 3 rfl) ?_
              have hk55 := kt_quarter ha0
              refine xg1 F hG ha0 0 (by decide) (kw466 F.kd) (v := .ref (g (a0 + 1))) rfl dX1_tryGo_93 ?_
              refine lv_iload_n hx hb dX1_tryGo_96 rfl (lv_at hl 6 rfl) ?_
              refine lv_iload hx hb dX1_tryGo_97 (lv_at hl 1 rfl) ?_
              refine lv_iload hx hb dX1_tryGo_99 (lv_at hl 2 rfl) ?_
              refine lv_iadd hx hb dX1_tryGo_101 ?_
              obtain ⟨M58, hc56, h⟩ := cb1_e h
              refine k_v (r_runVN F hG (c_X3_put l D ca g hk55 hc56) (kd_lt hk55 (by decide)) (gd3 hk55) rfl (kw295 F.kd) (kw297 F.kd) (ks_X3_put F.kd) (kw3 F.kd) (kw298 F.kd) yd_X3_put ⟨Nat.le_of_ble_eq_true rfl, Nat.le_of_ble_eq_true rfl⟩ rfl hl.1 rfl (Nat.le_of_ble_eq_true rfl) dX1_tryGo_102 ⟨Nat.le_of_ble_eq_true rfl, Nat.le_of_ble_eq_true rfl⟩) hG (fun H locs hG => ?_)
              refine lv_aload_n hx hb dX1_tryGo_105 rfl (lv_at hl 4 rfl) ?_
              refine lv_iload_n hx hb dX1_tryGo_106 rfl (lv_at hl 5 rfl) ?_
              obtain ⟨M59, eM59, h⟩ := mlet_e h
              refine xp0N F hG ha1 eM59 rfl (by decide) (kw418 F.kd) rfl rfl rfl dX1_tryGo_107 (fun H locs hG => ?_)
              refine lv_iconst (v := 1) hx hb dX1_tryGo_110 (by decide) ?_
              obtain ⟨rfl, rfl⟩ := som2 h
              exact end_z F hr hlk (by decide) hG dX1_tryGo_111
set_option maxHeartbeats 4000000 in
set_option maxRecDepth 100000 in
theorem c_X1_tryRaise (l : Launch) (D : va_G) (ca : vCA) (g : Nat → Nat) {fu : Nat} {M : Mem} {a0 : Nat} {a1 : Nat} {x2 : Int32} {M' : Mem} {r : Int32} (ha0 : kd a0 = 1) (ha1 : kd a1 = 0) (h : m_X1_tryRaise fu M a0 a1 x2 = some (M', r)) : cM l yX1_tryRaise cX1_tryRaise 4 (some .boolean) { frames := 1, cells := 0, slots := 0, locals := 22 } D ca g M [.ref (g a0), .ref (g a1), .int x2] (fun sz => cQi D ca g sz M' r) := by
  refine mk_Met (by decide) (Nat.le_of_ble_eq_true rfl) ?_
  intro p e s m below meth c F hr hlk hnm hG ls hl
  have hx := F.1
  have hb := F.2.1
  replace hl : lv_has ls 4 [(0, .ref (g a0)), (1, .ref (g a1)), (2, .int x2)] := hl
  unfold m_X1_tryRaise at h
  refine lv_aload_n hx hb dX1_tryRaise_0 rfl (lv_at hl 0 rfl) ?_
  have hk4 := kt_quarter ha0
  refine xg1 F hG ha0 0 (by decide) (kw466 F.kd) (v := .ref (g (a0 + 1))) rfl dX1_tryRaise_1 ?_
  refine lv_iload_n hx hb dX1_tryRaise_4 rfl (lv_at hl 2 rfl) ?_
  obtain ⟨r6, hc5, h⟩ := cb1_e h
  refine k_i (r_runVN F hG (c_X3_at l D ca g hk4 hc5) (kd_lt hk4 (by decide)) (gd3 hk4) rfl (kw140 F.kd) (kw95 F.kd) (ks_X3_at F.kd) (kw3 F.kd) (kw97 F.kd) yd_X3_at ⟨Nat.le_of_ble_eq_true rfl, Nat.le_of_ble_eq_true rfl⟩ rfl hl.1 rfl (Nat.le_of_ble_eq_true rfl) dX1_tryRaise_5 ⟨Nat.le_of_ble_eq_true rfl, Nat.le_of_ble_eq_true rfl⟩) hG (fun H locs hG => ?_)
  refine lv_istore_n (lv' := [(3, .int r6), (0, .ref (g a0)), (1, .ref (g a1)), (2, .int x2)]) hx hb dX1_tryRaise_8 rfl hl (by decide) rfl (fun ls hl => ?_)
  refine lv_aload_n hx hb dX1_tryRaise_9 rfl (lv_at hl 2 rfl) ?_
  refine xg0N F hG ha1 1 (by decide) (kw421 F.kd) (v := .int (M a1 1)) rfl dX1_tryRaise_10 ?_
  refine lv_iconst (v := 3) hx hb dX1_tryRaise_13 (by decide) ?_
  refine lv_icmp_lt (tgt := 35) hx hb dX1_tryRaise_14 (by decide) (fun c7 => ?_) (fun c7 => ?_)
  · have h := ite_t h c7
    refine lv_iconst (v := 0) hx hb dX1_tryRaise_35 (by decide) ?_
    obtain ⟨rfl, rfl⟩ := som2 h
    exact end_z F hr hlk (by decide) hG dX1_tryRaise_36
  · have h := ite_f h c7
    refine lv_iload_n hx hb dX1_tryRaise_17 rfl (lv_at hl 0 rfl) ?_
    refine lv_iconst (v := (-1)) hx hb dX1_tryRaise_18 (by decide) ?_
    refine lv_icmp_eq (tgt := 35) hx hb dX1_tryRaise_19 (by decide) (fun c8 => ?_) (fun c8 => ?_)
    · have h := ite_t h c8
      refine lv_iconst (v := 0) hx hb dX1_tryRaise_35 (by decide) ?_
      obtain ⟨rfl, rfl⟩ := som2 h
      exact end_z F hr hlk (by decide) hG dX1_tryRaise_36
    · have h := ite_f h c8
      refine lv_iload_n hx hb dX1_tryRaise_22 rfl (lv_at hl 0 rfl) ?_
      refine lv_iconst (v := 3) hx hb dX1_tryRaise_23 (by decide) ?_
      refine lv_icmp_ge (tgt := 35) hx hb dX1_tryRaise_24 (by decide) (fun c9 => ?_) (fun c9 => ?_)
      · have h := ite_t h c9
        refine lv_iconst (v := 0) hx hb dX1_tryRaise_35 (by decide) ?_
        obtain ⟨rfl, rfl⟩ := som2 h
        exact end_z F hr hlk (by decide) hG dX1_tryRaise_36
      · have h := ite_f h c9
        refine lv_aload_n hx hb dX1_tryRaise_27 rfl (lv_at hl 1 rfl) ?_
        refine lv_iload_n hx hb dX1_tryRaise_28 rfl (lv_at hl 3 rfl) ?_
        obtain ⟨r11, hc10, h⟩ := cb1_e h
        refine k_i (r_runV F hG (c_X1_isTaken l D ca g ha0 hc10) (kd_lt ha0 (by decide)) (gd1 ha0) rfl (kw291 F.kd) (kw293 F.kd) (ks_X1_isTaken F.kd) (kw2 F.kd) (kw294 F.kd) yd_X1_isTaken ⟨Nat.le_of_ble_eq_true rfl, Nat.le_of_ble_eq_true rfl⟩ rfl hl.1 rfl (Nat.le_of_ble_eq_true rfl) dX1_tryRaise_29 ⟨Nat.le_of_ble_eq_true rfl, Nat.le_of_ble_eq_true rfl⟩) hG (fun H locs hG => ?_)
        refine lv_if_eq (tgt := 37) hx hb dX1_tryRaise_32 (by decide) (fun c12 => ?_) (fun c12 => ?_)
        · have h := ite_t h c12
          refine lv_aload_n hx hb dX1_tryRaise_37 rfl (lv_at hl 1 rfl) ?_
          have hk13 := kt_quarter ha0
          refine xg1 F hG ha0 0 (by decide) (kw466 F.kd) (v := .ref (g (a0 + 1))) rfl dX1_tryRaise_38 ?_
          refine lv_iload_n hx hb dX1_tryRaise_41 rfl (lv_at hl 3 rfl) ?_
          refine lv_iload_n hx hb dX1_tryRaise_42 rfl (lv_at hl 0 rfl) ?_
          refine lv_iconst (v := 1) hx hb dX1_tryRaise_43 (by decide) ?_
          refine lv_iadd hx hb dX1_tryRaise_44 ?_
          obtain ⟨M16, hc14, h⟩ := cb1_e h
          refine k_v (r_runVN F hG (c_X3_put l D ca g hk13 hc14) (kd_lt hk13 (by decide)) (gd3 hk13) rfl (kw295 F.kd) (kw297 F.kd) (ks_X3_put F.kd) (kw3 F.kd) (kw298 F.kd) yd_X3_put ⟨Nat.le_of_ble_eq_true rfl, Nat.le_of_ble_eq_true rfl⟩ rfl hl.1 rfl (Nat.le_of_ble_eq_true rfl) dX1_tryRaise_45 ⟨Nat.le_of_ble_eq_true rfl, Nat.le_of_ble_eq_true rfl⟩) hG (fun H locs hG => ?_)
          refine lv_iconst (v := 1) hx hb dX1_tryRaise_48 (by decide) ?_
          obtain ⟨rfl, rfl⟩ := som2 h
          exact end_z F hr hlk (by decide) hG dX1_tryRaise_49
        · have h := ite_f h c12
          refine lv_iconst (v := 0) hx hb dX1_tryRaise_35 (by decide) ?_
          obtain ⟨rfl, rfl⟩ := som2 h
          exact end_z F hr hlk (by decide) hG dX1_tryRaise_36
set_option maxHeartbeats 4000000 in
set_option maxRecDepth 100000 in
theorem c_X1_tryPullDown (l : Launch) (D : va_G) (ca : vCA) (g : Nat → Nat) {fu : Nat} {M : Mem} {a0 : Nat} {x1 : Int32} {M' : Mem} {r : Int32} (ha0 : kd a0 = 1) (h : m_X1_tryPullDown fu M a0 x1 = some (M', r)) : cM l yX1_tryPullDown cX1_tryPullDown 3 (some .boolean) { frames := 1, cells := 0, slots := 0, locals := 22 } D ca g M [.ref (g a0), .int x1] (fun sz => cQi D ca g sz M' r) := by
  refine mk_Met (by decide) (Nat.le_of_ble_eq_true rfl) ?_
  intro p e s m below meth c F hr hlk hnm hG ls hl
  have hx := F.1
  have hb := F.2.1
  replace hl : lv_has ls 3 [(0, .ref (g a0)), (1, .int x1)] := hl
  unfold m_X1_tryPullDown at h
  refine lv_aload_n hx hb dX1_tryPullDown_0 rfl (lv_at hl 0 rfl) ?_
  have hk3 := kt_quarter ha0
  refine xg1 F hG ha0 0 (by decide) (kw466 F.kd) (v := .ref (g (a0 + 1))) rfl dX1_tryPullDown_1 ?_
  refine lv_iload_n hx hb dX1_tryPullDown_4 rfl (lv_at hl 1 rfl) ?_
  obtain ⟨r5, hc4, h⟩ := cb1_e h
  refine k_i (r_runVN F hG (c_X3_at l D ca g hk3 hc4) (kd_lt hk3 (by decide)) (gd3 hk3) rfl (kw140 F.kd) (kw95 F.kd) (ks_X3_at F.kd) (kw3 F.kd) (kw97 F.kd) yd_X3_at ⟨Nat.le_of_ble_eq_true rfl, Nat.le_of_ble_eq_true rfl⟩ rfl hl.1 rfl (Nat.le_of_ble_eq_true rfl) dX1_tryPullDown_5 ⟨Nat.le_of_ble_eq_true rfl, Nat.le_of_ble_eq_true rfl⟩) hG (fun H locs hG => ?_)
  refine lv_istore_n (lv' := [(2, .int r5), (0, .ref (g a0)), (1, .int x1)]) hx hb dX1_tryPullDown_8 rfl hl (by decide) rfl (fun ls hl => ?_)
  refine lv_iload_n hx hb dX1_tryPullDown_9 rfl (lv_at hl 0 rfl) ?_
  refine lv_if_gt (tgt := 15) hx hb dX1_tryPullDown_10 (by decide) (fun c6 => ?_) (fun c6 => ?_)
  · have h := ite_t h c6
    refine lv_aload_n hx hb dX1_tryPullDown_15 rfl (lv_at hl 1 rfl) ?_
    have hk7 := kt_quarter ha0
    refine xg1 F hG ha0 0 (by decide) (kw466 F.kd) (v := .ref (g (a0 + 1))) rfl dX1_tryPullDown_16 ?_
    refine lv_iload_n hx hb dX1_tryPullDown_19 rfl (lv_at hl 2 rfl) ?_
    refine lv_iload_n hx hb dX1_tryPullDown_20 rfl (lv_at hl 0 rfl) ?_
    refine lv_iconst (v := 1) hx hb dX1_tryPullDown_21 (by decide) ?_
    refine lv_isub hx hb dX1_tryPullDown_22 ?_
    obtain ⟨M10, hc8, h⟩ := cb1_e h
    refine k_v (r_runVN F hG (c_X3_put l D ca g hk7 hc8) (kd_lt hk7 (by decide)) (gd3 hk7) rfl (kw295 F.kd) (kw297 F.kd) (ks_X3_put F.kd) (kw3 F.kd) (kw298 F.kd) yd_X3_put ⟨Nat.le_of_ble_eq_true rfl, Nat.le_of_ble_eq_true rfl⟩ rfl hl.1 rfl (Nat.le_of_ble_eq_true rfl) dX1_tryPullDown_23 ⟨Nat.le_of_ble_eq_true rfl, Nat.le_of_ble_eq_true rfl⟩) hG (fun H locs hG => ?_)
    refine lv_iconst (v := 1) hx hb dX1_tryPullDown_26 (by decide) ?_
    obtain ⟨rfl, rfl⟩ := som2 h
    exact end_z F hr hlk (by decide) hG dX1_tryPullDown_27
  · have h := ite_f h c6
    refine lv_iconst (v := 0) hx hb dX1_tryPullDown_13 (by decide) ?_
    obtain ⟨rfl, rfl⟩ := som2 h
    exact end_z F hr hlk (by decide) hG dX1_tryPullDown_14
set_option maxHeartbeats 4000000 in
set_option maxRecDepth 100000 in
theorem c_X1_tryOrder (l : Launch) (D : va_G) (ca : vCA) (g : Nat → Nat) {fu : Nat} {M : Mem} {a0 : Nat} {a1 : Nat} {x2 : Int32} {x3 : Int32} {M' : Mem} {r : Int32} (ha0 : kd a0 = 1) (ha1 : kd a1 = 0) (h : m_X1_tryOrder fu M a0 a1 x2 x3 = some (M', r)) : cM l yX1_tryOrder cX1_tryOrder 5 (some .boolean) { frames := 2, cells := 0, slots := 0, locals := 48 } D ca g M [.ref (g a0), .ref (g a1), .int x2, .int x3] (fun sz => cQi D ca g sz M' r) := by
  refine mk_Met (by decide) (Nat.le_of_ble_eq_true rfl) ?_
  intro p e s m below meth c F hr hlk hnm hG ls hl
  have hx := F.1
  have hb := F.2.1
  replace hl : lv_has ls 5 [(0, .ref (g a0)), (1, .ref (g a1)), (2, .int x2), (3, .int x3)] := hl
  unfold m_X1_tryOrder at h
  refine lv_aload_n hx hb dX1_tryOrder_0 rfl (lv_at hl 1 rfl) ?_
  refine xg0N F hG ha1 0 (by decide) (kw418 F.kd) (v := .int (M a1 0)) rfl dX1_tryOrder_1 ?_
  refine lv_iload_n hx hb dX1_tryOrder_4 rfl (lv_at hl 3 rfl) ?_
  obtain ⟨r6, hc5, h⟩ := cb1_e h
  refine k_i (r_runSN F hG (c_X3_next l D ca g hc5) (kw286 F.kd) (kw217 F.kd) (kw3 F.kd) (kw218 F.kd) yd_X3_next ⟨Nat.le_of_ble_eq_true rfl, Nat.le_of_ble_eq_true rfl⟩ rfl hl.1 rfl (Nat.le_of_ble_eq_true rfl) dX1_tryOrder_5 ⟨Nat.le_of_ble_eq_true rfl, Nat.le_of_ble_eq_true rfl⟩) hG (fun H locs hG => ?_)
  refine lv_istore (lv' := [(4, .int r6), (0, .ref (g a0)), (1, .ref (g a1)), (2, .int x2), (3, .int x3)]) hx hb dX1_tryOrder_8 hl (by decide) rfl (fun ls hl => ?_)
  refine lv_iload_n hx hb dX1_tryOrder_10 rfl (lv_at hl 3 rfl) ?_
  by_cases c7 : x2 = 0
  · have h := ite_t h c7
    refine lv_lookup (off := 25) (tgt := 36) hx hb dX1_tryOrder_11 (by decide) (by rw [c7]; rfl) (by decide) ?_
    refine lv_aload_n hx hb dX1_tryOrder_36 rfl (lv_at hl 1 rfl) ?_
    refine lv_aload_n hx hb dX1_tryOrder_37 rfl (lv_at hl 2 rfl) ?_
    refine lv_iload hx hb dX1_tryOrder_38 (lv_at hl 0 rfl) ?_
    refine lv_iload hx hb dX1_tryOrder_40 (lv_at hl 0 rfl) ?_
    refine lv_iload_n hx hb dX1_tryOrder_42 rfl (lv_at hl 4 rfl) ?_
    obtain ⟨r9, hc8, h⟩ := cb1_e h
    refine k_i (r_runSN F hG (c_X3_next l D ca g hc8) (kw286 F.kd) (kw217 F.kd) (kw3 F.kd) (kw218 F.kd) yd_X3_next ⟨Nat.le_of_ble_eq_true rfl, Nat.le_of_ble_eq_true rfl⟩ rfl hl.1 rfl (Nat.le_of_ble_eq_true rfl) dX1_tryOrder_43 ⟨Nat.le_of_ble_eq_true rfl, Nat.le_of_ble_eq_true rfl⟩) hG (fun H locs hG => ?_)
    obtain ⟨M12, r11, hc10, h⟩ := cb2_e h
    refine k_i (r_runV F hG (c_X1_tryGo l D ca g ha0 ha1 hc10) (kd_lt ha0 (by decide)) (gd1 ha0) rfl (kw287 F.kd) (kw289 F.kd) (ks_X1_tryGo F.kd) (kw2 F.kd) (kw290 F.kd) yd_X1_tryGo ⟨Nat.le_of_ble_eq_true rfl, Nat.le_of_ble_eq_true rfl⟩ rfl hl.1 rfl (Nat.le_of_ble_eq_true rfl) dX1_tryOrder_46 ⟨Nat.le_of_ble_eq_true rfl, Nat.le_of_ble_eq_true rfl⟩) hG (fun H locs hG => ?_)
    obtain ⟨hz13, h⟩ := chk_e h
    obtain ⟨rfl, rfl⟩ := som2 h
    exact end_z F hr hlk hz13 hG dX1_tryOrder_49
  have h := ite_f h c7
  by_cases c14 : x2 = 1
  · have h := ite_t h c14
    refine lv_lookup (off := 39) (tgt := 50) hx hb dX1_tryOrder_11 (by decide) (by rw [c14]; rfl) (by decide) ?_
    refine lv_aload_n hx hb dX1_tryOrder_50 rfl (lv_at hl 1 rfl) ?_
    refine lv_aload_n hx hb dX1_tryOrder_51 rfl (lv_at hl 2 rfl) ?_
    refine lv_iload hx hb dX1_tryOrder_52 (lv_at hl 0 rfl) ?_
    obtain ⟨M17, r16, hc15, h⟩ := cb2_e h
    refine k_i (r_runV F hG (c_X1_tryRaise l D ca g ha0 ha1 hc15) (kd_lt ha0 (by decide)) (gd1 ha0) rfl (kw299 F.kd) (kw301 F.kd) (ks_X1_tryRaise F.kd) (kw2 F.kd) (kw302 F.kd) yd_X1_tryRaise ⟨Nat.le_of_ble_eq_true rfl, Nat.le_of_ble_eq_true rfl⟩ rfl hl.1 rfl (Nat.le_of_ble_eq_true rfl) dX1_tryOrder_54 ⟨Nat.le_of_ble_eq_true rfl, Nat.le_of_ble_eq_true rfl⟩) hG (fun H locs hG => ?_)
    obtain ⟨hz18, h⟩ := chk_e h
    obtain ⟨rfl, rfl⟩ := som2 h
    exact end_z F hr hlk hz18 hG dX1_tryOrder_57
  have h := ite_f h c14
  refine lv_lookup (off := 47) (tgt := 58) hx hb dX1_tryOrder_11 (by decide) (lso1 c7 c14) (by decide) ?_
  refine lv_aload_n hx hb dX1_tryOrder_58 rfl (lv_at hl 1 rfl) ?_
  refine lv_iload hx hb dX1_tryOrder_59 (lv_at hl 0 rfl) ?_
  obtain ⟨M21, r20, hc19, h⟩ := cb2_e h
  refine k_i (r_runV F hG (c_X1_tryPullDown l D ca g ha0 hc19) (kd_lt ha0 (by decide)) (gd1 ha0) rfl (kw303 F.kd) (kw305 F.kd) (ks_X1_tryPullDown F.kd) (kw2 F.kd) (kw306 F.kd) yd_X1_tryPullDown ⟨Nat.le_of_ble_eq_true rfl, Nat.le_of_ble_eq_true rfl⟩ rfl hl.1 rfl (Nat.le_of_ble_eq_true rfl) dX1_tryOrder_61 ⟨Nat.le_of_ble_eq_true rfl, Nat.le_of_ble_eq_true rfl⟩) hG (fun H locs hG => ?_)
  obtain ⟨hz22, h⟩ := chk_e h
  obtain ⟨rfl, rfl⟩ := som2 h
  exact end_z F hr hlk hz22 hG dX1_tryOrder_64
set_option maxHeartbeats 4000000 in
set_option maxRecDepth 100000 in
theorem m_X1_obeyOrders_L2_w {p : Program} {l : Launch} {e : Env} {s : State} {m : MethodId} {args : Array Value} {below : List Frame} {meth : Method} {c : Code} {Q : State → Prop} {D : va_G} {ca : vCA} {g : Nat → Nat} {fu : Nat} {q0 : Nat} {out : Mem} (F : FX p m c cX1_obeyOrders 4 s D ca g RX1) (hq0 : kd q0 = 1)
    (K0 : ∀ (M1 : Mem) (H : Heap) (locs : List Loc) (ls : Array Slot), out = M1 → GW D ca g s M1 H locs → lv_has ls 4 [] → W p l e ({ frames := 3, cells := 0, slots := 0, locals := 72 }) s m args below meth c H locs 0 0 Q (F0 m 71 ls [])) :
    ∀ (n : Nat) (M : Mem) (z1 : Int32), m_X1_obeyOrders_L2 fu q0 n M z1 = some out → ∀ (H : Heap) (locs : List Loc) (ls : Array Slot), GW D ca g s M H locs → lv_has ls 4 [(0, .ref (g q0)), (1, .int z1)] → W p l e ({ frames := 3, cells := 0, slots := 0, locals := 72 }) s m args below meth c H locs 0 0 Q (F0 m 2 ls []) := by
  have hx := F.1
  have hb := F.2.1
  intro n
  induction n with
  | zero =>
    intro M z1 h
    exact absurd h (by simp [m_X1_obeyOrders_L2])
  | succ n ih =>
    intro M z1 h H locs ls hG hl
    rw [m_X1_obeyOrders_L2] at h
    refine lv_iload_n hx hb dX1_obeyOrders_2 rfl (lv_at hl 1 rfl) ?_
    refine lv_aload_n hx hb dX1_obeyOrders_3 rfl (lv_at hl 0 rfl) ?_
    refine xg1 F hG hq0 2 (by decide) (kw470 F.kd) (v := .int (M q0 2)) rfl dX1_obeyOrders_4 ?_
    refine lv_icmp_ge (tgt := 71) hx hb dX1_obeyOrders_7 (by decide) (fun c2 => ?_) (fun c2 => ?_)
    · have h := ite_t h c2
      exact K0 _ _ _ _ (som1 h).symm hG (lv_sub hl [] rfl)
    · have h := ite_f h c2
      refine lv_aload_n hx hb dX1_obeyOrders_10 rfl (lv_at hl 0 rfl) ?_
      have hk3 := kt_crowds hq0
      refine xg1 F hG hq0 1 (by decide) (kw468 F.kd) (v := .ref (g (q0 + 3))) rfl dX1_obeyOrders_11 ?_
      refine lv_iload_n hx hb dX1_obeyOrders_14 rfl (lv_at hl 1 rfl) ?_
      obtain ⟨hi4, h⟩ := chk_e h
      have hk5 := kt_elC hk3 hi4
      refine r_aldC F hG hk3 hi4 dX1_obeyOrders_15 ?_
      refine lv_astore_n (lv' := [(2, .ref (g (elC (q0 + 3) z1))), (0, .ref (g q0)), (1, .int z1)]) hx hb dX1_obeyOrders_16 rfl hl (by decide) rfl (fun ls hl => ?_)
      refine lv_aload_n hx hb dX1_obeyOrders_17 rfl (lv_at hl 0 rfl) ?_
      obtain ⟨r7, hc6, h⟩ := cb1_e h
      refine k_i (r_runVN F hG (c_X0_firstOrder l D ca g hk5 hc6) (kd_lt hk5 (by decide)) (gd0 hk5) rfl (kw117 F.kd) (kw119 F.kd) (ks_X0_firstOrder F.kd) (kw4 F.kd) (kw121 F.kd) yd_X0_firstOrder ⟨Nat.le_of_ble_eq_true rfl, Nat.le_of_ble_eq_true rfl⟩ rfl hl.1 rfl (Nat.le_of_ble_eq_true rfl) dX1_obeyOrders_18 ⟨Nat.le_of_ble_eq_true rfl, Nat.le_of_ble_eq_true rfl⟩) hG (fun H locs hG => ?_)
      refine lv_istore_n (lv' := [(3, .int r7), (2, .ref (g (elC (q0 + 3) z1))), (0, .ref (g q0)), (1, .int z1)]) hx hb dX1_obeyOrders_21 rfl hl (by decide) rfl (fun ls hl => ?_)
      refine lv_aload_n hx hb dX1_obeyOrders_22 rfl (lv_at hl 1 rfl) ?_
      obtain ⟨r9, hc8, h⟩ := cb1_e h
      refine k_i (r_runVN F hG (c_X0_isScattered l D ca g hk5 hc8) (kd_lt hk5 (by decide)) (gd0 hk5) rfl (kw133 F.kd) (kw135 F.kd) (ks_X0_isScattered F.kd) (kw4 F.kd) (kw136 F.kd) yd_X0_isScattered ⟨Nat.le_of_ble_eq_true rfl, Nat.le_of_ble_eq_true rfl⟩ rfl hl.1 rfl (Nat.le_of_ble_eq_true rfl) dX1_obeyOrders_23 ⟨Nat.le_of_ble_eq_true rfl, Nat.le_of_ble_eq_true rfl⟩) hG (fun H locs hG => ?_)
      refine lv_if_ne (tgt := 65) hx hb dX1_obeyOrders_26 (by decide) (fun c10 => ?_) (fun c10 => ?_)
      · have h := ite_f h c10
        obtain ⟨x11, ex11, h⟩ := mlet_e h
        refine lv_iinc (v := x11) (lv' := [(1, .int x11), (3, .int r7), (2, .ref (g (elC (q0 + 3) z1))), (0, .ref (g q0))]) hx hb dX1_obeyOrders_65 hl (k := 3) rfl (by rw [ex11]; rfl) (by decide) rfl (fun ls hl => ?_)
        refine lv_goto (tgt := 2) hx hb dX1_obeyOrders_68 (by decide) ?_
        exact ih M x11 h _ _ _ hG (lv_sub hl [3, 0] rfl)
      · have h := ite_t h c10
        refine lv_iload_n hx hb dX1_obeyOrders_29 rfl (lv_at hl 0 rfl) ?_
        refine lv_iconst (v := (-1)) hx hb dX1_obeyOrders_30 (by decide) ?_
        refine lv_icmp_ne (tgt := 37) hx hb dX1_obeyOrders_31 (by decide) (fun c12 => ?_) (fun c12 => ?_)
        · have h := ite_f h c12
          refine lv_aload_n hx hb dX1_obeyOrders_37 rfl (lv_at hl 1 rfl) ?_
          obtain ⟨M15, hc13, h⟩ := cb1_e h
          refine k_v (r_runVN F hG (c_X0_dropFirstOrder l D ca g hk5 hc13) (kd_lt hk5 (by decide)) (gd0 hk5) rfl (kw275 F.kd) (kw277 F.kd) (ks_X0_dropFirstOrder F.kd) (kw4 F.kd) (kw278 F.kd) yd_X0_dropFirstOrder ⟨Nat.le_of_ble_eq_true rfl, Nat.le_of_ble_eq_true rfl⟩ rfl hl.1 rfl (Nat.le_of_ble_eq_true rfl) dX1_obeyOrders_38 ⟨Nat.le_of_ble_eq_true rfl, Nat.le_of_ble_eq_true rfl⟩) hG (fun H locs hG => ?_)
          refine lv_aload_n hx hb dX1_obeyOrders_41 rfl (lv_at hl 2 rfl) ?_
          refine lv_aload_n hx hb dX1_obeyOrders_42 rfl (lv_at hl 1 rfl) ?_
          refine lv_iload_n hx hb dX1_obeyOrders_43 rfl (lv_at hl 0 rfl) ?_
          refine lv_iconst (v := 2) hx hb dX1_obeyOrders_44 (by decide) ?_
          refine lv_ishr hx hb dX1_obeyOrders_45 ?_
          refine lv_iload_n hx hb dX1_obeyOrders_46 rfl (lv_at hl 0 rfl) ?_
          refine lv_iconst (v := 3) hx hb dX1_obeyOrders_47 (by decide) ?_
          refine lv_iand hx hb dX1_obeyOrders_48 ?_
          obtain ⟨M18, r17, hc16, h⟩ := cb2_e h
          refine k_i (r_runV F hG (c_X1_tryOrder l D ca g hq0 hk5 hc16) (kd_lt hq0 (by decide)) (gd1 hq0) rfl (kw282 F.kd) (kw284 F.kd) (ks_X1_tryOrder F.kd) (kw2 F.kd) (kw285 F.kd) yd_X1_tryOrder ⟨Nat.le_of_ble_eq_true rfl, Nat.le_of_ble_eq_true rfl⟩ rfl hl.1 rfl (Nat.le_of_ble_eq_true rfl) dX1_obeyOrders_49 ⟨Nat.le_of_ble_eq_true rfl, Nat.le_of_ble_eq_true rfl⟩) hG (fun H locs hG => ?_)
          refine lv_if_ne (tgt := 65) hx hb dX1_obeyOrders_52 (by decide) (fun c19 => ?_) (fun c19 => ?_)
          · have h := ite_f h c19
            obtain ⟨x20, ex20, h⟩ := mlet_e h
            refine lv_iinc (v := x20) (lv' := [(1, .int x20), (3, .int r7), (2, .ref (g (elC (q0 + 3) z1))), (0, .ref (g q0))]) hx hb dX1_obeyOrders_65 hl (k := 3) rfl (by rw [ex20]; rfl) (by decide) rfl (fun ls hl => ?_)
            refine lv_goto (tgt := 2) hx hb dX1_obeyOrders_68 (by decide) ?_
            exact ih M18 x20 h _ _ _ hG (lv_sub hl [3, 0] rfl)
          · have h := ite_t h c19
            refine lv_aload_n hx hb dX1_obeyOrders_55 rfl (lv_at hl 1 rfl) ?_
            refine lv_dup hx hb dX1_obeyOrders_56 rfl ?_
            refine xg0N F hG hk5 5 (by decide) (kw429 F.kd) (v := .int (M18 (elC (q0 + 3) z1) 5)) rfl dX1_obeyOrders_57 ?_
            refine lv_iconst (v := 1) hx hb dX1_obeyOrders_60 (by decide) ?_
            refine lv_iadd hx hb dX1_obeyOrders_61 ?_
            obtain ⟨M21, eM21, h⟩ := mlet_e h
            refine xp0N F hG hk5 eM21 rfl (by decide) (kw429 F.kd) rfl rfl rfl dX1_obeyOrders_62 (fun H locs hG => ?_)
            obtain ⟨x22, ex22, h⟩ := mlet_e h
            refine lv_iinc (v := x22) (lv' := [(1, .int x22), (3, .int r7), (2, .ref (g (elC (q0 + 3) z1))), (0, .ref (g q0))]) hx hb dX1_obeyOrders_65 hl (k := 3) rfl (by rw [ex22]; rfl) (by decide) rfl (fun ls hl => ?_)
            refine lv_goto (tgt := 2) hx hb dX1_obeyOrders_68 (by decide) ?_
            exact ih M21 x22 h _ _ _ hG (lv_sub hl [3, 0] rfl)
        · have h := ite_t h c12
          refine lv_goto (tgt := 65) hx hb dX1_obeyOrders_34 (by decide) ?_
          obtain ⟨x23, ex23, h⟩ := mlet_e h
          refine lv_iinc (v := x23) (lv' := [(1, .int x23), (3, .int r7), (2, .ref (g (elC (q0 + 3) z1))), (0, .ref (g q0))]) hx hb dX1_obeyOrders_65 hl (k := 3) rfl (by rw [ex23]; rfl) (by decide) rfl (fun ls hl => ?_)
          refine lv_goto (tgt := 2) hx hb dX1_obeyOrders_68 (by decide) ?_
          exact ih M x23 h _ _ _ hG (lv_sub hl [3, 0] rfl)
set_option maxHeartbeats 4000000 in
set_option maxRecDepth 100000 in
theorem c_X1_obeyOrders (l : Launch) (D : va_G) (ca : vCA) (g : Nat → Nat) {fu : Nat} {M : Mem} {a0 : Nat} {M' : Mem} (ha0 : kd a0 = 1) (h : m_X1_obeyOrders fu M a0 = some M') : cM l yX1_obeyOrders cX1_obeyOrders 4 none { frames := 3, cells := 0, slots := 0, locals := 72 } D ca g M [.ref (g a0)] (fun sz => cQv D ca g sz M') := by
  refine mk_Met (by decide) (Nat.le_of_ble_eq_true rfl) ?_
  intro p e s m below meth c F hr hlk hnm hG ls hl
  have hx := F.1
  have hb := F.2.1
  replace hl : lv_has ls 4 [(0, .ref (g a0))] := hl
  unfold m_X1_obeyOrders at h
  refine lv_iconst (v := 0) hx hb dX1_obeyOrders_0 (by decide) ?_
  refine lv_istore_n (lv' := [(1, .int 0), (0, .ref (g a0))]) hx hb dX1_obeyOrders_1 rfl hl (by decide) rfl (fun ls hl => ?_)
  obtain ⟨o24, ho25, h⟩ := cb1_e h
  refine m_X1_obeyOrders_L2_w (out := o24) F ha0 ?_ _ _ _ ho25 _ _ _ hG (lv_sub hl [1, 0] rfl)
  · intro M26 H locs ls eo hG hl
    subst o24
    obtain rfl := som1 h
    exact end_v F hr hlk hG dX1_obeyOrders_71
set_option maxHeartbeats 4000000 in
set_option maxRecDepth 100000 in
theorem m_X1_scatter_L2_w {p : Program} {l : Launch} {e : Env} {s : State} {m : MethodId} {args : Array Value} {below : List Frame} {meth : Method} {c : Code} {Q : State → Prop} {D : va_G} {ca : vCA} {g : Nat → Nat} {fu : Nat} {q0 : Nat} {out : Mem} (F : FX p m c cX1_scatter 3 s D ca g RX1) (hq0 : kd q0 = 1)
    (K0 : ∀ (M1 : Mem) (H : Heap) (locs : List Loc) (ls : Array Slot), out = M1 → GW D ca g s M1 H locs → lv_has ls 3 [] → W p l e ({ frames := 3, cells := 0, slots := 0, locals := 73 }) s m args below meth c H locs 0 0 Q (F0 m 41 ls [])) :
    ∀ (n : Nat) (M : Mem) (z1 : Int32), m_X1_scatter_L2 fu q0 n M z1 = some out → ∀ (H : Heap) (locs : List Loc) (ls : Array Slot), GW D ca g s M H locs → lv_has ls 3 [(0, .ref (g q0)), (1, .int z1)] → W p l e ({ frames := 3, cells := 0, slots := 0, locals := 73 }) s m args below meth c H locs 0 0 Q (F0 m 2 ls []) := by
  have hx := F.1
  have hb := F.2.1
  intro n
  induction n with
  | zero =>
    intro M z1 h
    exact absurd h (by simp [m_X1_scatter_L2])
  | succ n ih =>
    intro M z1 h H locs ls hG hl
    rw [m_X1_scatter_L2] at h
    refine lv_iload_n hx hb dX1_scatter_2 rfl (lv_at hl 1 rfl) ?_
    refine lv_aload_n hx hb dX1_scatter_3 rfl (lv_at hl 0 rfl) ?_
    refine xg1 F hG hq0 2 (by decide) (kw470 F.kd) (v := .int (M q0 2)) rfl dX1_scatter_4 ?_
    refine lv_icmp_ge (tgt := 41) hx hb dX1_scatter_7 (by decide) (fun c2 => ?_) (fun c2 => ?_)
    · have h := ite_t h c2
      exact K0 _ _ _ _ (som1 h).symm hG (lv_sub hl [] rfl)
    · have h := ite_f h c2
      refine lv_aload_n hx hb dX1_scatter_10 rfl (lv_at hl 0 rfl) ?_
      have hk3 := kt_crowds hq0
      refine xg1 F hG hq0 1 (by decide) (kw468 F.kd) (v := .ref (g (q0 + 3))) rfl dX1_scatter_11 ?_
      refine lv_iload_n hx hb dX1_scatter_14 rfl (lv_at hl 1 rfl) ?_
      obtain ⟨hi4, h⟩ := chk_e h
      have hk5 := kt_elC hk3 hi4
      refine r_aldC F hG hk3 hi4 dX1_scatter_15 ?_
      refine lv_astore_n (lv' := [(2, .ref (g (elC (q0 + 3) z1))), (0, .ref (g q0)), (1, .int z1)]) hx hb dX1_scatter_16 rfl hl (by decide) rfl (fun ls hl => ?_)
      refine lv_aload_n hx hb dX1_scatter_17 rfl (lv_at hl 0 rfl) ?_
      refine lv_aload_n hx hb dX1_scatter_18 rfl (lv_at hl 0 rfl) ?_
      refine xg0N F hG hk5 1 (by decide) (kw421 F.kd) (v := .int (M (elC (q0 + 3) z1) 1)) rfl dX1_scatter_19 ?_
      refine lv_aload_n hx hb dX1_scatter_22 rfl (lv_at hl 1 rfl) ?_
      refine lv_aload_n hx hb dX1_scatter_23 rfl (lv_at hl 0 rfl) ?_
      obtain ⟨r7, hc6, h⟩ := cb1_e h
      refine k_i (r_runV F hG (c_X1_patrolsThatSee l D ca g hq0 hk5 hc6) (kd_lt hq0 (by decide)) (gd1 hq0) rfl (kw122 F.kd) (kw124 F.kd) (ks_X1_patrolsThatSee F.kd) (kw2 F.kd) (kw125 F.kd) yd_X1_patrolsThatSee ⟨Nat.le_of_ble_eq_true rfl, Nat.le_of_ble_eq_true rfl⟩ rfl hl.1 rfl (Nat.le_of_ble_eq_true rfl) dX1_scatter_24 ⟨Nat.le_of_ble_eq_true rfl, Nat.le_of_ble_eq_true rfl⟩) hG (fun H locs hG => ?_)
      refine lv_isub hx hb dX1_scatter_27 ?_
      refine lv_iconst (v := 0) hx hb dX1_scatter_28 (by decide) ?_
      obtain ⟨x8, ex8, h⟩ := mlet_e h
      rw [← ex8]
      refine va_mmax hx hb (F.2.2.1.trans hl.1.symm) F.2.2.2.1 (kw318 F.kd) (kw240 F.kd) (kw14 F.kd) (kw241 F.kd) (Nat.le_of_ble_eq_true rfl) (Nat.le_of_ble_eq_true rfl) (Nat.zero_le _) (Nat.zero_le _) dX1_scatter_29 ?_
      refine lv_topi (fun x9 ex9 => ?_)
      have h := mlet_n h ex9
      obtain ⟨M10, eM10, h⟩ := mlet_e h
      refine xp0N F hG hk5 eM10 rfl (by decide) (kw421 F.kd) rfl rfl rfl dX1_scatter_32 (fun H locs hG => ?_)
      obtain ⟨x11, ex11, h⟩ := mlet_e h
      refine lv_iinc (v := x11) (lv' := [(1, .int x11), (2, .ref (g (elC (q0 + 3) z1))), (0, .ref (g q0))]) hx hb dX1_scatter_35 hl (k := 2) rfl (by rw [ex11]; rfl) (by decide) rfl (fun ls hl => ?_)
      refine lv_goto (tgt := 2) hx hb dX1_scatter_38 (by decide) ?_
      exact ih M10 x11 h _ _ _ hG (lv_sub hl [2, 0] rfl)
set_option maxHeartbeats 4000000 in
set_option maxRecDepth 100000 in
theorem c_X1_scatter (l : Launch) (D : va_G) (ca : vCA) (g : Nat → Nat) {fu : Nat} {M : Mem} {a0 : Nat} {M' : Mem} (ha0 : kd a0 = 1) (h : m_X1_scatter fu M a0 = some M') : cM l yX1_scatter cX1_scatter 3 none { frames := 3, cells := 0, slots := 0, locals := 73 } D ca g M [.ref (g a0)] (fun sz => cQv D ca g sz M') := by
  refine mk_Met (by decide) (Nat.le_of_ble_eq_true rfl) ?_
  intro p e s m below meth c F hr hlk hnm hG ls hl
  have hx := F.1
  have hb := F.2.1
  replace hl : lv_has ls 3 [(0, .ref (g a0))] := hl
  unfold m_X1_scatter at h
  refine lv_iconst (v := 0) hx hb dX1_scatter_0 (by decide) ?_
  refine lv_istore_n (lv' := [(1, .int 0), (0, .ref (g a0))]) hx hb dX1_scatter_1 rfl hl (by decide) rfl (fun ls hl => ?_)
  obtain ⟨o12, ho13, h⟩ := cb1_e h
  refine m_X1_scatter_L2_w (out := o12) F ha0 ?_ _ _ _ ho13 _ _ _ hG (lv_sub hl [1, 0] rfl)
  · intro M14 H locs ls eo hG hl
    subst o12
    obtain rfl := som1 h
    exact end_v F hr hlk hG dX1_scatter_41
set_option maxHeartbeats 4000000 in
set_option maxRecDepth 100000 in
theorem m_X1_goOn_L13_w {p : Program} {l : Launch} {e : Env} {s : State} {m : MethodId} {args : Array Value} {below : List Frame} {meth : Method} {c : Code} {Q : State → Prop} {D : va_G} {ca : vCA} {g : Nat → Nat} {fu : Nat} {q0 : Nat} {y1 : Int32} {y2 : Int32} {out : Mem} (F : FX p m c cX1_goOn 4 s D ca g RX1) (hq0 : kd q0 = 1)
    (K0 : ∀ (M1 : Mem) (H : Heap) (locs : List Loc) (ls : Array Slot), out = M1 → GW D ca g s M1 H locs → lv_has ls 4 [(0, .ref (g q0)), (1, .int y1), (2, .int y2)] → W p l e ({ frames := 4, cells := 0, slots := 0, locals := 95 }) s m args below meth c H locs 0 0 Q (F0 m 40 ls [])) :
    ∀ (n : Nat) (M : Mem) (z3 : Int32), m_X1_goOn_L13 fu q0 y1 y2 n M z3 = some out → ∀ (H : Heap) (locs : List Loc) (ls : Array Slot), GW D ca g s M H locs → lv_has ls 4 [(0, .ref (g q0)), (1, .int y1), (2, .int y2), (3, .int z3)] → W p l e ({ frames := 4, cells := 0, slots := 0, locals := 95 }) s m args below meth c H locs 0 0 Q (F0 m 13 ls []) := by
  have hx := F.1
  have hb := F.2.1
  intro n
  induction n with
  | zero =>
    intro M z3 h
    exact absurd h (by simp [m_X1_goOn_L13])
  | succ n ih =>
    intro M z3 h H locs ls hG hl
    rw [m_X1_goOn_L13] at h
    refine lv_iload_n hx hb dX1_goOn_13 rfl (lv_at hl 3 rfl) ?_
    refine lv_aload_n hx hb dX1_goOn_14 rfl (lv_at hl 0 rfl) ?_
    refine xg1 F hG hq0 4 (by decide) (kw474 F.kd) (v := .int (M q0 4)) rfl dX1_goOn_15 ?_
    refine lv_icmp_ge (tgt := 40) hx hb dX1_goOn_18 (by decide) (fun c7 => ?_) (fun c7 => ?_)
    · have h := ite_t h c7
      exact K0 _ _ _ _ (som1 h).symm hG (lv_sub hl [0, 1, 2] rfl)
    · have h := ite_f h c7
      refine lv_aload_n hx hb dX1_goOn_21 rfl (lv_at hl 0 rfl) ?_
      have hk8 := kt_patrols hq0
      refine xg1 F hG hq0 3 (by decide) (kw472 F.kd) (v := .ref (g (q0 + 4))) rfl dX1_goOn_22 ?_
      refine lv_iload_n hx hb dX1_goOn_25 rfl (lv_at hl 3 rfl) ?_
      obtain ⟨hi9, h⟩ := chk_e h
      have hk10 := kt_elP hk8 hi9
      refine r_aldP F hG hk8 hi9 dX1_goOn_26 ?_
      refine lv_aload_n hx hb dX1_goOn_27 rfl (lv_at hl 0 rfl) ?_
      have hk11 := kt_quarter hq0
      refine xg1 F hG hq0 0 (by decide) (kw466 F.kd) (v := .ref (g (q0 + 1))) rfl dX1_goOn_28 ?_
      obtain ⟨M14, hc12, h⟩ := cb1_e h
      refine k_v (r_runVN F hG (c_X2_moveOn l D ca g hk10 hk11 hc12) (kd_lt hk10 (by decide)) (gd2 hk10) rfl (kw307 F.kd) (kw309 F.kd) (ks_X2_moveOn F.kd) (kw5 F.kd) (kw310 F.kd) yd_X2_moveOn ⟨Nat.le_of_ble_eq_true rfl, Nat.le_of_ble_eq_true rfl⟩ rfl hl.1 rfl (Nat.le_of_ble_eq_true rfl) dX1_goOn_31 ⟨Nat.le_of_ble_eq_true rfl, Nat.le_of_ble_eq_true rfl⟩) hG (fun H locs hG => ?_)
      obtain ⟨x15, ex15, h⟩ := mlet_e h
      refine lv_iinc (v := x15) (lv' := [(3, .int x15), (0, .ref (g q0)), (1, .int y1), (2, .int y2)]) hx hb dX1_goOn_34 hl (k := 3) rfl (by rw [ex15]; rfl) (by decide) rfl (fun ls hl => ?_)
      refine lv_goto (tgt := 13) hx hb dX1_goOn_37 (by decide) ?_
      exact ih M14 x15 h _ _ _ hG (lv_sub hl [1, 2, 3, 0] rfl)
set_option maxHeartbeats 4000000 in
set_option maxRecDepth 100000 in
theorem m_X1_goOn_L2_w {p : Program} {l : Launch} {e : Env} {s : State} {m : MethodId} {args : Array Value} {below : List Frame} {meth : Method} {c : Code} {Q : State → Prop} {D : va_G} {ca : vCA} {g : Nat → Nat} {fu : Nat} {q0 : Nat} {y1 : Int32} {out : Mem} (F : FX p m c cX1_goOn 4 s D ca g RX1) (hq0 : kd q0 = 1)
    (K0 : ∀ (M1 : Mem) (H : Heap) (locs : List Loc) (ls : Array Slot), out = M1 → GW D ca g s M1 H locs → lv_has ls 4 [] → W p l e ({ frames := 4, cells := 0, slots := 0, locals := 95 }) s m args below meth c H locs 0 0 Q (F0 m 60 ls [])) :
    ∀ (n : Nat) (M : Mem) (z2 : Int32), m_X1_goOn_L2 fu q0 y1 n M z2 = some out → ∀ (H : Heap) (locs : List Loc) (ls : Array Slot), GW D ca g s M H locs → lv_has ls 4 [(0, .ref (g q0)), (1, .int y1), (2, .int z2)] → W p l e ({ frames := 4, cells := 0, slots := 0, locals := 95 }) s m args below meth c H locs 0 0 Q (F0 m 2 ls []) := by
  have hx := F.1
  have hb := F.2.1
  intro n
  induction n with
  | zero =>
    intro M z2 h
    exact absurd h (by simp [m_X1_goOn_L2])
  | succ n ih =>
    intro M z2 h H locs ls hG hl
    rw [m_X1_goOn_L2] at h
    refine lv_iload_n hx hb dX1_goOn_2 rfl (lv_at hl 2 rfl) ?_
    refine lv_iload_n hx hb dX1_goOn_3 rfl (lv_at hl 1 rfl) ?_
    refine lv_icmp_ge (tgt := 60) hx hb dX1_goOn_4 (by decide) (fun c3 => ?_) (fun c3 => ?_)
    · have h := ite_t h c3
      exact K0 _ _ _ _ (som1 h).symm hG (lv_sub hl [] rfl)
    · have h := ite_f h c3
      refine lv_aload_n hx hb dX1_goOn_7 rfl (lv_at hl 0 rfl) ?_
      obtain ⟨M6, hc4, h⟩ := cb1_e h
      refine k_v (r_runV F hG (c_X1_obeyOrders l D ca g hq0 hc4) (kd_lt hq0 (by decide)) (gd1 hq0) rfl (kw271 F.kd) (kw273 F.kd) (ks_X1_obeyOrders F.kd) (kw2 F.kd) (kw274 F.kd) yd_X1_obeyOrders ⟨Nat.le_of_ble_eq_true rfl, Nat.le_of_ble_eq_true rfl⟩ rfl hl.1 rfl (Nat.le_of_ble_eq_true rfl) dX1_goOn_8 ⟨Nat.le_of_ble_eq_true rfl, Nat.le_of_ble_eq_true rfl⟩) hG (fun H locs hG => ?_)
      refine lv_iconst (v := 0) hx hb dX1_goOn_11 (by decide) ?_
      refine lv_istore_n (lv' := [(3, .int 0), (0, .ref (g q0)), (1, .int y1), (2, .int z2)]) hx hb dX1_goOn_12 rfl hl (by decide) rfl (fun ls hl => ?_)
      obtain ⟨o16, ho17, h⟩ := cb1_e h
      refine m_X1_goOn_L13_w (out := o16) F hq0 ?_ _ _ _ ho17 _ _ _ hG (lv_sub hl [1, 2, 3, 0] rfl)
      · intro M18 H locs ls eo hG hl
        subst o16
        refine lv_aload_n hx hb dX1_goOn_40 rfl (lv_at hl 0 rfl) ?_
        obtain ⟨M21, hc19, h⟩ := cb1_e h
        refine k_v (r_runV F hG (c_X1_scatter l D ca g hq0 hc19) (kd_lt hq0 (by decide)) (gd1 hq0) rfl (kw314 F.kd) (kw316 F.kd) (ks_X1_scatter F.kd) (kw2 F.kd) (kw317 F.kd) yd_X1_scatter ⟨Nat.le_of_ble_eq_true rfl, Nat.le_of_ble_eq_true rfl⟩ rfl hl.1 rfl (Nat.le_of_ble_eq_true rfl) dX1_goOn_41 ⟨Nat.le_of_ble_eq_true rfl, Nat.le_of_ble_eq_true rfl⟩) hG (fun H locs hG => ?_)
        refine lv_aload_n hx hb dX1_goOn_44 rfl (lv_at hl 0 rfl) ?_
        refine lv_dup hx hb dX1_goOn_45 rfl ?_
        refine xg1 F hG hq0 5 (by decide) (kw476 F.kd) (v := .int (M21 q0 5)) rfl dX1_goOn_46 ?_
        refine lv_iconst (v := 1) hx hb dX1_goOn_49 (by decide) ?_
        refine lv_iadd hx hb dX1_goOn_50 ?_
        obtain ⟨M22, eM22, h⟩ := mlet_e h
        refine xp1 F hG hq0 eM22 rfl (by decide) (kw476 F.kd) rfl rfl rfl dX1_goOn_51 (fun H locs hG => ?_)
        obtain ⟨x23, ex23, h⟩ := mlet_e h
        refine lv_iinc (v := x23) (lv' := [(2, .int x23), (0, .ref (g q0)), (1, .int y1)]) hx hb dX1_goOn_54 hl (k := 2) rfl (by rw [ex23]; rfl) (by decide) rfl (fun ls hl => ?_)
        refine lv_goto (tgt := 2) hx hb dX1_goOn_57 (by decide) ?_
        exact ih M22 x23 h _ _ _ hG (lv_sub hl [1, 2, 0] rfl)
set_option maxHeartbeats 4000000 in
set_option maxRecDepth 100000 in
theorem c_X1_goOn (l : Launch) (D : va_G) (ca : vCA) (g : Nat → Nat) {fu : Nat} {M : Mem} {a0 : Nat} {x1 : Int32} {M' : Mem} (ha0 : kd a0 = 1) (h : m_X1_goOn fu M a0 x1 = some M') : cM l yX1_goOn cX1_goOn 4 none { frames := 4, cells := 0, slots := 0, locals := 95 } D ca g M [.ref (g a0), .int x1] (fun sz => cQv D ca g sz M') := by
  refine mk_Met (by decide) (Nat.le_of_ble_eq_true rfl) ?_
  intro p e s m below meth c F hr hlk hnm hG ls hl
  have hx := F.1
  have hb := F.2.1
  replace hl : lv_has ls 4 [(0, .ref (g a0)), (1, .int x1)] := hl
  unfold m_X1_goOn at h
  refine lv_iconst (v := 0) hx hb dX1_goOn_0 (by decide) ?_
  refine lv_istore_n (lv' := [(2, .int 0), (0, .ref (g a0)), (1, .int x1)]) hx hb dX1_goOn_1 rfl hl (by decide) rfl (fun ls hl => ?_)
  obtain ⟨o24, ho25, h⟩ := cb1_e h
  refine m_X1_goOn_L2_w (out := o24) F ha0 ?_ _ _ _ ho25 _ _ _ hG (lv_sub hl [1, 2, 0] rfl)
  · intro M26 H locs ls eo hG hl
    subst o24
    obtain rfl := som1 h
    exact end_v F hr hlk hG dX1_goOn_60

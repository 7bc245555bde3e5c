set_option maxHeartbeats 4000000 in
set_option maxRecDepth 100000 in
theorem m_S5_L489_w {p : Program} {l : Launch} {e : Env} {s : State} {m : MethodId} {args : Array Value} {below : List Frame} {meth : Method} {c : Code} {Q : State → Prop} {D : va_G} {ca : vCA} {g : Nat → Nat} {fu : Nat} {cA cB : ClassId} {nc np aW aP aC ue uf : Nat} {M : Mem} {X : Mem} {y2 : Int32} {y3 : Int32} {y4 : Int32} {y12 : Int32} {y13 : Int32} {y18 : Int32} {out : Int32 × Int32 × Int32} (F : FX p m c cL_law 31 s D ca g RL) (hst : l.stackTraces = false) (hA1 : ArrOfT s cA (.array .int)) (hA2 : ArrOfT s cB (.array .int)) (hnc : nc ≤ 6) (hnp : np ≤ 3) (hE : ue + 0 ≤ 600104) (hF : uf + 0 ≤ 7301313)
    (K : ∀ (u21 : Int32) (u22 : Int32) (u23 : Int32) (H : Heap) (locs : List Loc) (ls : Array Slot), out = (u21, u22, u23) → GL D ca g s 3 cA cB nc np aW aP aC M X H locs → lv_has ls 31 [(0, .ref (ca.2.2.2.1)), (1, .ref (g 40)), (2, .int y2), (3, .int y3), (4, .int y4), (9, .ref aP), (10, .ref aC), (12, .int y12), (13, .int y13), (18, .int y18), (21, .int u21), (22, .int u22), (23, .int u23)] → W p l e (room_1) s m args below meth c H locs ue uf Q (F0 m 885 ls [])) :
    ∀ (n : Nat) (z21 : Int32) (z22 : Int32) (z23 : Int32) (z24 : Int32), m_S5_L489 fu (scr ca) nc np M X y2 y3 y4 y12 y13 y18 n z21 z22 z23 z24 = some out → ∀ (H : Heap) (locs : List Loc) (ls : Array Slot), GL D ca g s 3 cA cB nc np aW aP aC M X H locs → lv_has ls 31 [(0, .ref (ca.2.2.2.1)), (1, .ref (g 40)), (2, .int y2), (3, .int y3), (4, .int y4), (8, .ref aW), (9, .ref aP), (10, .ref aC), (12, .int y12), (13, .int y13), (18, .int y18), (21, .int z21), (22, .int z22), (23, .int z23), (24, .int z24)] → W p l e (room_1) s m args below meth c H locs ue uf Q (F0 m 489 ls []) := by
  have hx := F.1
  have hb := F.2.1
  intro n
  induction n with
  | zero =>
    intro z21 z22 z23 z24 h
    exact absurd h (by simp [m_S5_L489])
  | succ n ih =>
    intro z21 z22 z23 z24 h H locs ls hG hl
    rw [m_S5_L489] at h
    refine lv_iload hx hb dL_law_489 (lv_at hl 14 rfl) ?_
    refine lv_iload_n hx hb dL_law_491 rfl (lv_at hl 2 rfl) ?_
    refine lv_icmp_ge (tgt := 885) hx hb dL_law_492 (by decide) (fun c63 => ?_) (fun c63 => ?_)
    · have h := ite_t h c63
      exact K _ _ _ _ _ _ (som1 h).symm hG (lv_sub hl [0, 1, 2, 3, 4, 6, 7, 8, 9, 10, 11, 12, 13] rfl)
    · have h := ite_f h c63
      refine lv_aload_n hx hb dL_law_495 rfl (lv_at hl 1 rfl) ?_
      refine lv_iload hx hb dL_law_496 (lv_at hl 14 rfl) ?_
      refine lv_iconst (v := 0) hx hb dL_law_498 (by decide) ?_
      obtain ⟨r65, hc64, h⟩ := nbd_n h
      refine z_i (r_runV F hG.1 (n_X5_crowd l D ca g (show kd 40 = 5 from rfl) hc64) (kd_lt (show kd 40 = 5 from rfl) (by decide)) (gd5 (show kd 40 = 5 from rfl)) rfl (kw98 F.kd) (kw99 F.kd) (kw100 F.kd) (kw1 F.kd) (kw101 F.kd) yd_X5_crowd ⟨Nat.le_of_ble_eq_true rfl, Nat.le_of_ble_eq_true rfl⟩ rfl hl.1 rfl (Nat.le_of_ble_eq_true rfl) dL_law_499 ⟨(show ue ≤ 600104 by omega), (show uf ≤ 7301313 by omega)⟩) rfl rfl hG (fun H locs hG => ?_)
      refine lv_istore (lv' := [(25, .int r65), (0, .ref (ca.2.2.2.1)), (1, .ref (g 40)), (2, .int y2), (3, .int y3), (4, .int y4), (8, .ref aW), (9, .ref aP), (10, .ref aC), (12, .int y12), (13, .int y13), (18, .int y18), (21, .int z21), (22, .int z22), (23, .int z23), (24, .int z24)]) hx hb dL_law_502 hl (by decide) rfl (fun ls hl => ?_)
      refine lv_aload_n hx hb dL_law_504 rfl (lv_at hl 2 rfl) ?_
      refine lv_iload hx hb dL_law_505 (lv_at hl 15 rfl) ?_
      refine lv_iconst (v := 1) hx hb dL_law_507 (by decide) ?_
      obtain ⟨r67, hc66, h⟩ := nbd_n h
      refine z_i (r_runV F hG.1 (n_X5_crowd l D ca g (show kd 40 = 5 from rfl) hc66) (kd_lt (show kd 40 = 5 from rfl) (by decide)) (gd5 (show kd 40 = 5 from rfl)) rfl (kw98 F.kd) (kw99 F.kd) (kw100 F.kd) (kw1 F.kd) (kw101 F.kd) yd_X5_crowd ⟨Nat.le_of_ble_eq_true rfl, Nat.le_of_ble_eq_true rfl⟩ rfl hl.1 rfl (Nat.le_of_ble_eq_true rfl) dL_law_508 ⟨(show ue ≤ 600104 by omega), (show uf ≤ 7301313 by omega)⟩) rfl rfl hG (fun H locs hG => ?_)
      refine lv_istore (lv' := [(26, .int r67), (25, .int r65), (0, .ref (ca.2.2.2.1)), (1, .ref (g 40)), (2, .int y2), (3, .int y3), (4, .int y4), (8, .ref aW), (9, .ref aP), (10, .ref aC), (12, .int y12), (13, .int y13), (18, .int y18), (21, .int z21), (22, .int z22), (23, .int z23), (24, .int z24)]) hx hb dL_law_511 hl (by decide) rfl (fun ls hl => ?_)
      refine lv_iload hx hb dL_law_513 (lv_at hl 1 rfl) ?_
      refine lv_aload hx hb dL_law_515 (lv_at hl 7 rfl) ?_
      refine lv_iload hx hb dL_law_517 (lv_at hl 16 rfl) ?_
      obtain ⟨hi68, h⟩ := chk_e h
      refine lx_aW F hA1 (by decide) hG hi68 dL_law_519 ?_
      refine lv_iconst (v := 0) hx hb dL_law_520 (by decide) ?_
      obtain ⟨hi69, h⟩ := chk_e h
      refine lx_iW F (by decide) hG hi68 hi69 dL_law_521 ?_
      refine lv_isub hx hb dL_law_522 ?_
      obtain ⟨x70, ex70, h⟩ := mlet_e h
      rw [← ex70]
      refine va_mabs hx hb (F.2.2.1.trans hl.1.symm) F.2.2.2.1 (kw603 F.kd) (kw131 F.kd) (kw14 F.kd) (kw132 F.kd) (Nat.le_of_ble_eq_true rfl) (Nat.le_of_ble_eq_true rfl) (show ue ≤ 600104 by omega) (show uf ≤ 7301313 by omega) dL_law_523 ?_
      refine lv_topi (fun x71 ex71 => ?_)
      have h := mlet_n h ex71
      refine lv_iload hx hb dL_law_526 (lv_at hl 0 rfl) ?_
      refine lv_aload hx hb dL_law_528 (lv_at hl 7 rfl) ?_
      refine lv_iload hx hb dL_law_530 (lv_at hl 16 rfl) ?_
      obtain ⟨hi72, h⟩ := chk_e h
      refine lx_aW F hA1 (by decide) hG hi72 dL_law_532 ?_
      refine lv_iconst (v := 1) hx hb dL_law_533 (by decide) ?_
      obtain ⟨hi73, h⟩ := chk_e h
      refine lx_iW F (by decide) hG hi72 hi73 dL_law_534 ?_
      refine lv_isub hx hb dL_law_535 ?_
      obtain ⟨x74, ex74, h⟩ := mlet_e h
      rw [← ex74]
      refine va_mabs hx hb (F.2.2.1.trans hl.1.symm) F.2.2.2.1 (kw603 F.kd) (kw131 F.kd) (kw14 F.kd) (kw132 F.kd) (Nat.le_of_ble_eq_true rfl) (Nat.le_of_ble_eq_true rfl) (show ue ≤ 600104 by omega) (show uf ≤ 7301313 by omega) dL_law_536 ?_
      refine lv_topi (fun x75 ex75 => ?_)
      have h := mlet_n h ex75
      refine lv_iadd hx hb dL_law_539 ?_
      refine lv_topi (fun x76 ex76 => ?_)
      have h := mlet_n h ex76
      refine lv_istore (lv' := [(27, .int x76), (26, .int r67), (25, .int r65), (0, .ref (ca.2.2.2.1)), (1, .ref (g 40)), (2, .int y2), (3, .int y3), (4, .int y4), (8, .ref aW), (9, .ref aP), (10, .ref aC), (12, .int y12), (13, .int y13), (18, .int y18), (21, .int z21), (22, .int z22), (23, .int z23), (24, .int z24)]) hx hb dL_law_540 hl (by decide) rfl (fun ls hl => ?_)
      refine lv_aload hx hb dL_law_542 (lv_at hl 8 rfl) ?_
      refine lv_iload hx hb dL_law_544 (lv_at hl 17 rfl) ?_
      obtain ⟨hi77, h⟩ := chk_e h
      refine lx_aW F hA1 (by decide) hG hi77 dL_law_546 ?_
      refine lv_iconst (v := 2) hx hb dL_law_547 (by decide) ?_
      obtain ⟨hi78, h⟩ := chk_e h
      refine lx_iW F (by decide) hG hi77 hi78 dL_law_548 ?_
      obtain ⟨o79, ho80, h⟩ := cb1_e h
      have J81 : ∀ (H : Heap) (locs : List Loc) (ls : Array Slot), GL D ca g s 3 cA cB nc np aW aP aC M X H locs → lv_has ls 31 [(27, .int x76), (26, .int r67), (25, .int r65), (0, .ref (ca.2.2.2.1)), (1, .ref (g 40)), (2, .int y2), (3, .int y3), (4, .int y4), (8, .ref aW), (9, .ref aP), (10, .ref aC), (12, .int y12), (13, .int y13), (18, .int y18), (21, .int z21), (22, .int z22), (23, .int z23), (24, .int z24)] → W p l e (room_1) s m args below meth c H locs ue uf Q (F0 m 567 ls [.int o79]) := by
        intro H locs ls hG hl
        refine lv_istore (lv' := [(28, .int o79), (27, .int x76), (26, .int r67), (25, .int r65), (0, .ref (ca.2.2.2.1)), (1, .ref (g 40)), (2, .int y2), (3, .int y3), (4, .int y4), (8, .ref aW), (9, .ref aP), (10, .ref aC), (12, .int y12), (13, .int y13), (18, .int y18), (21, .int z21), (22, .int z22), (23, .int z23), (24, .int z24)]) hx hb dL_law_567 hl (by decide) rfl (fun ls hl => ?_)
        refine lv_aload_n hx hb dL_law_569 rfl (lv_at hl 5 rfl) ?_
        refine lv_iload hx hb dL_law_570 (lv_at hl 18 rfl) ?_
        refine lv_bipush (v := 6) hx hb dL_law_572 (by decide) ?_
        obtain ⟨r87, hc86, h⟩ := nbd_n h
        refine z_i (r_runV F hG.1 (n_X5_crowd l D ca g (show kd 40 = 5 from rfl) hc86) (kd_lt (show kd 40 = 5 from rfl) (by decide)) (gd5 (show kd 40 = 5 from rfl)) rfl (kw98 F.kd) (kw99 F.kd) (kw100 F.kd) (kw1 F.kd) (kw101 F.kd) yd_X5_crowd ⟨Nat.le_of_ble_eq_true rfl, Nat.le_of_ble_eq_true rfl⟩ rfl hl.1 rfl (Nat.le_of_ble_eq_true rfl) dL_law_574 ⟨(show ue ≤ 600104 by omega), (show uf ≤ 7301313 by omega)⟩) rfl rfl hG (fun H locs hG => ?_)
        refine lv_aload hx hb dL_law_577 (lv_at hl 9 rfl) ?_
        refine lv_iload hx hb dL_law_579 (lv_at hl 18 rfl) ?_
        obtain ⟨hi88, h⟩ := chk_e h
        refine lx_aW F hA1 (by decide) hG hi88 dL_law_581 ?_
        refine lv_bipush (v := 6) hx hb dL_law_582 (by decide) ?_
        obtain ⟨hi89, h⟩ := chk_e h
        refine lx_iW F (by decide) hG hi88 hi89 dL_law_584 ?_
        obtain ⟨o90, ho91, h⟩ := cb1_e h
        have J92 : ∀ (H : Heap) (locs : List Loc) (ls : Array Slot), GL D ca g s 3 cA cB nc np aW aP aC M X H locs → lv_has ls 31 [(28, .int o79), (27, .int x76), (26, .int r67), (25, .int r65), (0, .ref (ca.2.2.2.1)), (1, .ref (g 40)), (2, .int y2), (3, .int y3), (4, .int y4), (8, .ref aW), (9, .ref aP), (10, .ref aC), (12, .int y12), (13, .int y13), (18, .int y18), (21, .int z21), (22, .int z22), (23, .int z23), (24, .int z24)] → W p l e (room_1) s m args below meth c H locs ue uf Q (F0 m 593 ls [.int o90]) := by
          intro H locs ls hG hl
          refine lv_istore (lv' := [(29, .int o90), (28, .int o79), (27, .int x76), (26, .int r67), (25, .int r65), (0, .ref (ca.2.2.2.1)), (1, .ref (g 40)), (2, .int y2), (3, .int y3), (4, .int y4), (8, .ref aW), (9, .ref aP), (10, .ref aC), (12, .int y12), (13, .int y13), (18, .int y18), (21, .int z21), (22, .int z22), (23, .int z23), (24, .int z24)]) hx hb dL_law_593 hl (by decide) rfl (fun ls hl => ?_)
          refine lv_aload hx hb dL_law_595 (lv_at hl 10 rfl) ?_
          refine lv_iload hx hb dL_law_597 (lv_at hl 19 rfl) ?_
          obtain ⟨hi94, h⟩ := chk_e h
          refine lx_aW F hA1 (by decide) hG hi94 dL_law_599 ?_
          refine lv_iconst (v := 5) hx hb dL_law_600 (by decide) ?_
          obtain ⟨hi95, h⟩ := chk_e h
          refine lx_iW F (by decide) hG hi94 hi95 dL_law_601 ?_
          refine lv_iconst (v := 4) hx hb dL_law_602 (by decide) ?_
          refine lv_idiv hx hb dL_law_603 (by decide) ?_
          refine lv_topi (fun x96 ex96 => ?_)
          have h := mlet_n h ex96
          refine lv_istore (lv' := [(30, .int x96), (29, .int o90), (28, .int o79), (27, .int x76), (26, .int r67), (25, .int r65), (0, .ref (ca.2.2.2.1)), (1, .ref (g 40)), (2, .int y2), (3, .int y3), (4, .int y4), (8, .ref aW), (9, .ref aP), (10, .ref aC), (12, .int y12), (13, .int y13), (18, .int y18), (21, .int z21), (22, .int z22), (23, .int z23), (24, .int z24)]) hx hb dL_law_604 hl (by decide) rfl (fun ls hl => ?_)
          refine lv_iload hx hb dL_law_606 (lv_at hl 3 rfl) ?_
          refine lv_iconst (v := 1) hx hb dL_law_608 (by decide) ?_
          refine lv_icmp_gt (tgt := 758) hx hb dL_law_609 (by decide) (fun c97 => ?_) (fun c97 => ?_)
          · have h := ite_t h c97
            cases h
          · have h := ite_f h c97
            refine lv_iload hx hb dL_law_612 (lv_at hl 3 rfl) ?_
            refine lv_iconst (v := 1) hx hb dL_law_614 (by decide) ?_
            obtain ⟨o98, ho99, h⟩ := cb1_e h
            have J100 : ∀ (H : Heap) (locs : List Loc) (ls : Array Slot), GL D ca g s 3 cA cB nc np aW aP aC M X H locs → lv_has ls 31 [(30, .int x96), (29, .int o90), (28, .int o79), (27, .int x76), (26, .int r67), (25, .int r65), (0, .ref (ca.2.2.2.1)), (1, .ref (g 40)), (2, .int y2), (3, .int y3), (4, .int y4), (8, .ref aW), (9, .ref aP), (10, .ref aC), (12, .int y12), (13, .int y13), (18, .int y18), (21, .int z21), (22, .int z22), (23, .int z23), (24, .int z24)] → W p l e (room_1) s m args below meth c H locs ue uf Q (F0 m 623 ls [.int o98]) := by
              intro H locs ls hG hl
              refine lv_iload hx hb dL_law_623 (lv_at hl 2 rfl) ?_
              obtain ⟨o102, ho103, h⟩ := cb1_e h
              have J104 : ∀ (H : Heap) (locs : List Loc) (ls : Array Slot), GL D ca g s 3 cA cB nc np aW aP aC M X H locs → lv_has ls 31 [(30, .int x96), (29, .int o90), (28, .int o79), (27, .int x76), (26, .int r67), (25, .int r65), (0, .ref (ca.2.2.2.1)), (1, .ref (g 40)), (2, .int y2), (3, .int y3), (4, .int y4), (8, .ref aW), (9, .ref aP), (10, .ref aC), (12, .int y12), (13, .int y13), (18, .int y18), (21, .int z21), (22, .int z22), (23, .int z23), (24, .int z24)] → W p l e (room_1) s m args below meth c H locs ue uf Q (F0 m 643 ls [.int o102, .int o98]) := by
                intro H locs ls hG hl
                refine lv_icmp_ne (tgt := 758) hx hb dL_law_643 (by decide) (fun c108 => ?_) (fun c108 => ?_)
                · have h := ite_f h c108
                  cases h
                · have h := ite_t h c108
                  refine lv_aload_n hx hb dL_law_646 rfl (lv_at hl 7 rfl) ?_
                  refine lv_iload hx hb dL_law_647 (lv_at hl 20 rfl) ?_
                  refine lv_iconst (v := 4) hx hb dL_law_649 (by decide) ?_
                  obtain ⟨r110, hc109, h⟩ := nbd_n h
                  refine z_i (r_runV F hG.1 (n_X5_crowd l D ca g (show kd 40 = 5 from rfl) hc109) (kd_lt (show kd 40 = 5 from rfl) (by decide)) (gd5 (show kd 40 = 5 from rfl)) rfl (kw98 F.kd) (kw99 F.kd) (kw100 F.kd) (kw1 F.kd) (kw101 F.kd) yd_X5_crowd ⟨Nat.le_of_ble_eq_true rfl, Nat.le_of_ble_eq_true rfl⟩ rfl hl.1 rfl (Nat.le_of_ble_eq_true rfl) dL_law_650 ⟨(show ue ≤ 600104 by omega), (show uf ≤ 7301313 by omega)⟩) rfl rfl hG (fun H locs hG => ?_)
                  refine lv_aload hx hb dL_law_653 (lv_at hl 11 rfl) ?_
                  refine lv_iload hx hb dL_law_655 (lv_at hl 20 rfl) ?_
                  obtain ⟨hi111, h⟩ := chk_e h
                  refine lx_aW F hA1 (by decide) hG hi111 dL_law_657 ?_
                  refine lv_iconst (v := 4) hx hb dL_law_658 (by decide) ?_
                  obtain ⟨hi112, h⟩ := chk_e h
                  refine lx_iW F (by decide) hG hi111 hi112 dL_law_659 ?_
                  refine lv_iload hx hb dL_law_660 (lv_at hl 2 rfl) ?_
                  obtain ⟨o113, ho114, h⟩ := cb1_e h
                  have J115 : ∀ (H : Heap) (locs : List Loc) (ls : Array Slot), GL D ca g s 3 cA cB nc np aW aP aC M X H locs → lv_has ls 31 [(30, .int x96), (29, .int o90), (28, .int o79), (27, .int x76), (26, .int r67), (25, .int r65), (0, .ref (ca.2.2.2.1)), (1, .ref (g 40)), (2, .int y2), (3, .int y3), (4, .int y4), (8, .ref aW), (9, .ref aP), (10, .ref aC), (12, .int y12), (13, .int y13), (18, .int y18), (21, .int z21), (22, .int z22), (23, .int z23), (24, .int z24)] → W p l e (room_1) s m args below meth c H locs ue uf Q (F0 m 670 ls [.int o113, .int (X z24.toNatClampNeg (4 : Int32).toNatClampNeg), .int r110]) := by
                    intro H locs ls hG hl
                    refine lv_isub hx hb dL_law_670 ?_
                    refine lv_icmp_ne (tgt := 758) hx hb dL_law_671 (by decide) (fun c117 => ?_) (fun c117 => ?_)
                    · have h := ite_f h c117
                      cases h
                    · have h := ite_t h c117
                      refine lv_aload_n hx hb dL_law_674 rfl (lv_at hl 7 rfl) ?_
                      refine lv_iload hx hb dL_law_675 (lv_at hl 20 rfl) ?_
                      refine lv_iconst (v := 3) hx hb dL_law_677 (by decide) ?_
                      obtain ⟨r119, hc118, h⟩ := nbd_n h
                      refine z_i (r_runV F hG.1 (n_X5_crowd l D ca g (show kd 40 = 5 from rfl) hc118) (kd_lt (show kd 40 = 5 from rfl) (by decide)) (gd5 (show kd 40 = 5 from rfl)) rfl (kw98 F.kd) (kw99 F.kd) (kw100 F.kd) (kw1 F.kd) (kw101 F.kd) yd_X5_crowd ⟨Nat.le_of_ble_eq_true rfl, Nat.le_of_ble_eq_true rfl⟩ rfl hl.1 rfl (Nat.le_of_ble_eq_true rfl) dL_law_678 ⟨(show ue ≤ 600104 by omega), (show uf ≤ 7301313 by omega)⟩) rfl rfl hG (fun H locs hG => ?_)
                      refine lv_aload hx hb dL_law_681 (lv_at hl 11 rfl) ?_
                      refine lv_iload hx hb dL_law_683 (lv_at hl 20 rfl) ?_
                      obtain ⟨hi120, h⟩ := chk_e h
                      refine lx_aW F hA1 (by decide) hG hi120 dL_law_685 ?_
                      refine lv_iconst (v := 3) hx hb dL_law_686 (by decide) ?_
                      obtain ⟨hi121, h⟩ := chk_e h
                      refine lx_iW F (by decide) hG hi120 hi121 dL_law_687 ?_
                      refine lv_icmp_ne (tgt := 758) hx hb dL_law_688 (by decide) (fun c122 => ?_) (fun c122 => ?_)
                      · have h := ite_f h c122
                        cases h
                      · have h := ite_t h c122
                        refine lv_iload hx hb dL_law_691 (lv_at hl 1 rfl) ?_
                        obtain ⟨o123, ho124, h⟩ := cb1_e h
                        have J125 : ∀ (H : Heap) (locs : List Loc) (ls : Array Slot), GL D ca g s 3 cA cB nc np aW aP aC M X H locs → lv_has ls 31 [(30, .int x96), (29, .int o90), (28, .int o79), (27, .int x76), (26, .int r67), (25, .int r65), (0, .ref (ca.2.2.2.1)), (1, .ref (g 40)), (2, .int y2), (3, .int y3), (4, .int y4), (8, .ref aW), (9, .ref aP), (10, .ref aC), (12, .int y12), (13, .int y13), (18, .int y18), (21, .int z21), (22, .int z22), (23, .int z23), (24, .int z24)] → W p l e (room_1) s m args below meth c H locs ue uf Q (F0 m 701 ls []) := by
                          intro H locs ls hG hl
                          refine lv_aload_n hx hb dL_law_701 rfl (lv_at hl 7 rfl) ?_
                          refine lv_iload hx hb dL_law_702 (lv_at hl 20 rfl) ?_
                          refine lv_bipush (v := 6) hx hb dL_law_704 (by decide) ?_
                          obtain ⟨r129, hc128, h⟩ := nbd_n h
                          refine z_i (r_runV F hG.1 (n_X5_crowd l D ca g (show kd 40 = 5 from rfl) hc128) (kd_lt (show kd 40 = 5 from rfl) (by decide)) (gd5 (show kd 40 = 5 from rfl)) rfl (kw98 F.kd) (kw99 F.kd) (kw100 F.kd) (kw1 F.kd) (kw101 F.kd) yd_X5_crowd ⟨Nat.le_of_ble_eq_true rfl, Nat.le_of_ble_eq_true rfl⟩ rfl hl.1 rfl (Nat.le_of_ble_eq_true rfl) dL_law_706 ⟨(show ue ≤ 600104 by omega), (show uf ≤ 7301313 by omega)⟩) rfl rfl hG (fun H locs hG => ?_)
                          refine lv_aload hx hb dL_law_709 (lv_at hl 11 rfl) ?_
                          refine lv_iload hx hb dL_law_711 (lv_at hl 20 rfl) ?_
                          obtain ⟨hi130, h⟩ := chk_e h
                          refine lx_aW F hA1 (by decide) hG hi130 dL_law_713 ?_
                          refine lv_bipush (v := 6) hx hb dL_law_714 (by decide) ?_
                          obtain ⟨hi131, h⟩ := chk_e h
                          refine lx_iW F (by decide) hG hi130 hi131 dL_law_716 ?_
                          refine lv_iconst (v := 1) hx hb dL_law_717 (by decide) ?_
                          refine lv_iadd hx hb dL_law_718 ?_
                          refine lv_icmp_gt (tgt := 758) hx hb dL_law_719 (by decide) (fun c132 => ?_) (fun c132 => ?_)
                          · have h := ite_t h c132
                            cases h
                          · have h := ite_f h c132
                            refine lv_aload_n hx hb dL_law_722 rfl (lv_at hl 7 rfl) ?_
                            refine lv_iload hx hb dL_law_723 (lv_at hl 20 rfl) ?_
                            refine lv_iconst (v := 2) hx hb dL_law_725 (by decide) ?_
                            obtain ⟨r134, hc133, h⟩ := nbd_n h
                            refine z_i (r_runV F hG.1 (n_X5_crowd l D ca g (show kd 40 = 5 from rfl) hc133) (kd_lt (show kd 40 = 5 from rfl) (by decide)) (gd5 (show kd 40 = 5 from rfl)) rfl (kw98 F.kd) (kw99 F.kd) (kw100 F.kd) (kw1 F.kd) (kw101 F.kd) yd_X5_crowd ⟨Nat.le_of_ble_eq_true rfl, Nat.le_of_ble_eq_true rfl⟩ rfl hl.1 rfl (Nat.le_of_ble_eq_true rfl) dL_law_726 ⟨(show ue ≤ 600104 by omega), (show uf ≤ 7301313 by omega)⟩) rfl rfl hG (fun H locs hG => ?_)
                            refine lv_iconst (v := 0) hx hb dL_law_729 (by decide) ?_
                            refine lv_aload hx hb dL_law_730 (lv_at hl 11 rfl) ?_
                            refine lv_iload hx hb dL_law_732 (lv_at hl 20 rfl) ?_
                            obtain ⟨hi135, h⟩ := chk_e h
                            refine lx_aW F hA1 (by decide) hG hi135 dL_law_734 ?_
                            refine lv_iconst (v := 2) hx hb dL_law_735 (by decide) ?_
                            obtain ⟨hi136, h⟩ := chk_e h
                            refine lx_iW F (by decide) hG hi135 hi136 dL_law_736 ?_
                            refine lv_aload_n hx hb dL_law_737 rfl (lv_at hl 7 rfl) ?_
                            refine lv_iload hx hb dL_law_738 (lv_at hl 20 rfl) ?_
                            refine lv_iload_n hx hb dL_law_740 rfl (lv_at hl 9 rfl) ?_
                            refine lv_aload hx hb dL_law_741 (lv_at hl 11 rfl) ?_
                            refine lv_iload hx hb dL_law_743 (lv_at hl 20 rfl) ?_
                            obtain ⟨hi137, h⟩ := chk_e h
                            refine lx_aW F hA1 (by decide) hG hi137 dL_law_745 ?_
                            refine lv_iconst (v := 2) hx hb dL_law_746 (by decide) ?_
                            obtain ⟨hi138, h⟩ := chk_e h
                            refine lx_iW F (by decide) hG hi137 hi138 dL_law_747 ?_
                            obtain ⟨r140, hc139, h⟩ := cb1_e h
                            refine z_i (r_runS F hG.1 (c_L_seen l D ca g (show kd 40 = 5 from rfl) hc139) (kw595 F.kd) (kw596 F.kd) (kw0 F.kd) (kw597 F.kd) yd_L_seen ⟨Nat.le_of_ble_eq_true rfl, Nat.le_of_ble_eq_true rfl⟩ rfl hl.1 rfl (Nat.le_of_ble_eq_true rfl) dL_law_748 ⟨(show ue ≤ 600104 by omega), (show uf ≤ 7301313 by omega)⟩) rfl rfl hG (fun H locs hG => ?_)
                            refine lv_isub hx hb dL_law_751 ?_
                            obtain ⟨x141, ex141, h⟩ := mlet_e h
                            rw [← ex141]
                            refine va_mmax hx hb (F.2.2.1.trans hl.1.symm) F.2.2.2.1 (kw604 F.kd) (kw240 F.kd) (kw14 F.kd) (kw241 F.kd) (Nat.le_of_ble_eq_true rfl) (Nat.le_of_ble_eq_true rfl) (show ue ≤ 600104 by omega) (show uf ≤ 7301313 by omega) dL_law_752 ?_
                            refine lv_topi (fun x142 ex142 => ?_)
                            have h := mlet_n h ex142
                            refine lv_icmp_eq (tgt := 760) hx hb dL_law_755 (by decide) (fun c143 => ?_) (fun c143 => ?_)
                            · have h := ite_t h c143
                              refine lv_aload hx hb dL_law_760 (lv_at hl 11 rfl) ?_
                              refine lv_iload hx hb dL_law_762 (lv_at hl 20 rfl) ?_
                              obtain ⟨hi144, h⟩ := chk_e h
                              refine lx_aW F hA1 (by decide) hG hi144 dL_law_764 ?_
                              refine lv_iconst (v := 2) hx hb dL_law_765 (by decide) ?_
                              obtain ⟨hi145, h⟩ := chk_e h
                              refine lx_iW F (by decide) hG hi144 hi145 dL_law_766 ?_
                              obtain ⟨o146, ho147, h⟩ := cb1_e h
                              have J148 : ∀ (H : Heap) (locs : List Loc) (ls : Array Slot), GL D ca g s 3 cA cB nc np aW aP aC M X H locs → lv_has ls 31 [(30, .int x96), (29, .int o90), (28, .int o79), (27, .int x76), (26, .int r67), (25, .int r65), (0, .ref (ca.2.2.2.1)), (1, .ref (g 40)), (2, .int y2), (3, .int y3), (4, .int y4), (8, .ref aW), (9, .ref aP), (10, .ref aC), (12, .int y12), (13, .int y13), (18, .int y18), (21, .int z21), (22, .int z22), (23, .int z23), (24, .int z24)] → W p l e (room_1) s m args below meth c H locs ue uf Q (F0 m 783 ls []) := by
                                intro H locs ls hG hl
                                refine lv_iload hx hb dL_law_783 (lv_at hl 19 rfl) ?_
                                refine lv_iload hx hb dL_law_785 (lv_at hl 1 rfl) ?_
                                obtain ⟨o153, ho154, h⟩ := cb1_e h
                                have J155 : ∀ (H : Heap) (locs : List Loc) (ls : Array Slot), GL D ca g s 3 cA cB nc np aW aP aC M X H locs → lv_has ls 31 [(30, .int x96), (29, .int o90), (28, .int o79), (27, .int x76), (26, .int r67), (25, .int r65), (0, .ref (ca.2.2.2.1)), (1, .ref (g 40)), (2, .int y2), (3, .int y3), (4, .int y4), (8, .ref aW), (9, .ref aP), (10, .ref aC), (12, .int y12), (13, .int y13), (18, .int y18), (21, .int z21), (22, .int z22), (23, .int z23), (24, .int z24)] → W p l e (room_1) s m args below meth c H locs ue uf Q (F0 m 795 ls [.int o153, .int z23]) := by
                                  intro H locs ls hG hl
                                  refine lv_iadd hx hb dL_law_795 ?_
                                  refine lv_topi (fun x157 ex157 => ?_)
                                  have h := mlet_n h ex157
                                  refine lv_istore (lv' := [(23, .int x157), (30, .int x96), (29, .int o90), (28, .int o79), (27, .int x76), (26, .int r67), (25, .int r65), (0, .ref (ca.2.2.2.1)), (1, .ref (g 40)), (2, .int y2), (3, .int y3), (4, .int y4), (8, .ref aW), (9, .ref aP), (10, .ref aC), (12, .int y12), (13, .int y13), (18, .int y18), (21, .int z21), (22, .int z22), (24, .int z24)]) hx hb dL_law_796 hl (by decide) rfl (fun ls hl => ?_)
                                  refine lv_iload hx hb dL_law_798 (lv_at hl 18 rfl) ?_
                                  refine lv_iload hx hb dL_law_800 (lv_at hl 3 rfl) ?_
                                  obtain ⟨o158, ho159, h⟩ := cb1_e h
                                  have J160 : ∀ (H : Heap) (locs : List Loc) (ls : Array Slot), GL D ca g s 3 cA cB nc np aW aP aC M X H locs → lv_has ls 31 [(23, .int x157), (30, .int x96), (29, .int o90), (28, .int o79), (27, .int x76), (26, .int r67), (25, .int r65), (0, .ref (ca.2.2.2.1)), (1, .ref (g 40)), (2, .int y2), (3, .int y3), (4, .int y4), (8, .ref aW), (9, .ref aP), (10, .ref aC), (12, .int y12), (13, .int y13), (18, .int y18), (21, .int z21), (22, .int z22), (24, .int z24)] → W p l e (room_1) s m args below meth c H locs ue uf Q (F0 m 821 ls [.int o158, .int z21]) := by
                                    intro H locs ls hG hl
                                    refine lv_iadd hx hb dL_law_821 ?_
                                    refine lv_topi (fun x164 ex164 => ?_)
                                    have h := mlet_n h ex164
                                    refine lv_istore (lv' := [(21, .int x164), (23, .int x157), (30, .int x96), (29, .int o90), (28, .int o79), (27, .int x76), (26, .int r67), (25, .int r65), (0, .ref (ca.2.2.2.1)), (1, .ref (g 40)), (2, .int y2), (3, .int y3), (4, .int y4), (8, .ref aW), (9, .ref aP), (10, .ref aC), (12, .int y12), (13, .int y13), (18, .int y18), (22, .int z22), (24, .int z24)]) hx hb dL_law_822 hl (by decide) rfl (fun ls hl => ?_)
                                    refine lv_iload hx hb dL_law_824 (lv_at hl 19 rfl) ?_
                                    refine lv_iload hx hb dL_law_826 (lv_at hl 4 rfl) ?_
                                    obtain ⟨o165, ho166, h⟩ := cb1_e h
                                    have J167 : ∀ (H : Heap) (locs : List Loc) (ls : Array Slot), GL D ca g s 3 cA cB nc np aW aP aC M X H locs → lv_has ls 31 [(21, .int x164), (23, .int x157), (30, .int x96), (29, .int o90), (28, .int o79), (27, .int x76), (26, .int r67), (25, .int r65), (0, .ref (ca.2.2.2.1)), (1, .ref (g 40)), (2, .int y2), (3, .int y3), (4, .int y4), (8, .ref aW), (9, .ref aP), (10, .ref aC), (12, .int y12), (13, .int y13), (18, .int y18), (22, .int z22), (24, .int z24)] → W p l e (room_1) s m args below meth c H locs ue uf Q (F0 m 847 ls [.int o165, .int z22]) := by
                                      intro H locs ls hG hl
                                      refine lv_iadd hx hb dL_law_847 ?_
                                      refine lv_topi (fun x171 ex171 => ?_)
                                      have h := mlet_n h ex171
                                      refine lv_istore (lv' := [(22, .int x171), (21, .int x164), (23, .int x157), (30, .int x96), (29, .int o90), (28, .int o79), (27, .int x76), (26, .int r67), (25, .int r65), (0, .ref (ca.2.2.2.1)), (1, .ref (g 40)), (2, .int y2), (3, .int y3), (4, .int y4), (8, .ref aW), (9, .ref aP), (10, .ref aC), (12, .int y12), (13, .int y13), (18, .int y18), (24, .int z24)]) hx hb dL_law_848 hl (by decide) rfl (fun ls hl => ?_)
                                      refine lv_iload hx hb dL_law_850 (lv_at hl 3 rfl) ?_
                                      refine lv_iconst (v := 1) hx hb dL_law_852 (by decide) ?_
                                      obtain ⟨o172, ho173, h⟩ := cb1_e h
                                      have J174 : ∀ (H : Heap) (locs : List Loc) (ls : Array Slot), GL D ca g s 3 cA cB nc np aW aP aC M X H locs → lv_has ls 31 [(22, .int x171), (21, .int x164), (23, .int x157), (30, .int x96), (29, .int o90), (28, .int o79), (27, .int x76), (26, .int r67), (25, .int r65), (0, .ref (ca.2.2.2.1)), (1, .ref (g 40)), (2, .int y2), (3, .int y3), (4, .int y4), (8, .ref aW), (9, .ref aP), (10, .ref aC), (12, .int y12), (13, .int y13), (18, .int y18), (24, .int z24)] → W p l e (room_1) s m args below meth c H locs ue uf Q (F0 m 879 ls []) := by
                                        intro H locs ls hG hl
                                        obtain ⟨x181, ex181, h⟩ := mlet_e h
                                        refine lv_iinc (v := x181) (lv' := [(24, .int x181), (22, .int x171), (21, .int x164), (23, .int x157), (30, .int x96), (29, .int o90), (28, .int o79), (27, .int x76), (26, .int r67), (25, .int r65), (0, .ref (ca.2.2.2.1)), (1, .ref (g 40)), (2, .int y2), (3, .int y3), (4, .int y4), (8, .ref aW), (9, .ref aP), (10, .ref aC), (12, .int y12), (13, .int y13), (18, .int y18)]) hx hb dL_law_879 hl (k := 20) rfl (by rw [ex181]; rfl) (by decide) rfl (fun ls hl => ?_)
                                        refine lv_goto (tgt := 489) hx hb dL_law_882 (by decide) ?_
                                        exact ih x164 x171 x157 x181 h _ _ _ hG (lv_sub hl [10, 11, 12, 13, 14, 15, 16, 17, 18, 19, 20, 2, 1, 3, 0] rfl)
                                      replace h := ho173
                                      refine lv_icmp_ne (tgt := 879) hx hb dL_law_853 (by decide) (fun c175 => ?_) (fun c175 => ?_)
                                      · have h := ite_f h c175
                                        exact J174 H locs ls hG hl
                                      · have h := ite_t h c175
                                        refine lv_iload hx hb dL_law_856 (lv_at hl 5 rfl) ?_
                                        refine lv_if_eq (tgt := 879) hx hb dL_law_858 (by decide) (fun c176 => ?_) (fun c176 => ?_)
                                        · have h := ite_t h c176
                                          exact J174 H locs ls hG hl
                                        · have h := ite_f h c176
                                          refine lv_iload hx hb dL_law_861 (lv_at hl 4 rfl) ?_
                                          refine lv_if_ne (tgt := 879) hx hb dL_law_863 (by decide) (fun c177 => ?_) (fun c177 => ?_)
                                          · have h := ite_f h c177
                                            exact J174 H locs ls hG hl
                                          · have h := ite_t h c177
                                            refine lv_aload hx hb dL_law_866 (lv_at hl 14 rfl) ?_
                                            refine lv_iload hx hb dL_law_868 (lv_at hl 20 rfl) ?_
                                            obtain ⟨hi178, h⟩ := chk_e h
                                            refine lx_aW F hA1 (by decide) hG hi178 dL_law_870 ?_
                                            refine lv_iconst (v := 2) hx hb dL_law_871 (by decide) ?_
                                            obtain ⟨hi179, h⟩ := chk_e h
                                            refine lx_iW F (by decide) hG hi178 hi179 dL_law_872 ?_
                                            refine lv_iconst (v := 3) hx hb dL_law_873 (by decide) ?_
                                            refine lv_icmp_ge (tgt := 879) hx hb dL_law_874 (by decide) (fun c180 => ?_) (fun c180 => ?_)
                                            · have h := ite_t h c180
                                              exact J174 H locs ls hG hl
                                            · have h := ite_f h c180
                                              cases h
                                    replace h := ho166
                                    refine lv_if_eq (tgt := 846) hx hb dL_law_828 (by decide) (fun c168 => ?_) (fun c168 => ?_)
                                    · have h := ite_t h c168
                                      refine lv_iconst (v := 0) hx hb dL_law_846 (by decide) ?_
                                      obtain rfl := som1 h
                                      exact J167 H locs ls hG hl
                                    · have h := ite_f h c168
                                      refine lv_iload hx hb dL_law_831 (lv_at hl 3 rfl) ?_
                                      refine lv_if_ne (tgt := 846) hx hb dL_law_833 (by decide) (fun c169 => ?_) (fun c169 => ?_)
                                      · have h := ite_f h c169
                                        refine lv_iconst (v := 0) hx hb dL_law_846 (by decide) ?_
                                        obtain rfl := som1 h
                                        exact J167 H locs ls hG hl
                                      · have h := ite_t h c169
                                        refine lv_iload hx hb dL_law_836 (lv_at hl 2 rfl) ?_
                                        refine lv_iconst (v := 2) hx hb dL_law_838 (by decide) ?_
                                        refine lv_icmp_ne (tgt := 846) hx hb dL_law_839 (by decide) (fun c170 => ?_) (fun c170 => ?_)
                                        · have h := ite_f h c170
                                          refine lv_iconst (v := 0) hx hb dL_law_846 (by decide) ?_
                                          obtain rfl := som1 h
                                          exact J167 H locs ls hG hl
                                        · have h := ite_t h c170
                                          refine lv_iconst (v := 1) hx hb dL_law_842 (by decide) ?_
                                          refine lv_goto (tgt := 847) hx hb dL_law_843 (by decide) ?_
                                          obtain rfl := som1 h
                                          exact J167 H locs ls hG hl
                                  replace h := ho159
                                  refine lv_if_eq (tgt := 820) hx hb dL_law_802 (by decide) (fun c161 => ?_) (fun c161 => ?_)
                                  · have h := ite_t h c161
                                    refine lv_iconst (v := 0) hx hb dL_law_820 (by decide) ?_
                                    obtain rfl := som1 h
                                    exact J160 H locs ls hG hl
                                  · have h := ite_f h c161
                                    refine lv_iload hx hb dL_law_805 (lv_at hl 2 rfl) ?_
                                    refine lv_if_ne (tgt := 820) hx hb dL_law_807 (by decide) (fun c162 => ?_) (fun c162 => ?_)
                                    · have h := ite_f h c162
                                      refine lv_iconst (v := 0) hx hb dL_law_820 (by decide) ?_
                                      obtain rfl := som1 h
                                      exact J160 H locs ls hG hl
                                    · have h := ite_t h c162
                                      refine lv_iload hx hb dL_law_810 (lv_at hl 1 rfl) ?_
                                      refine lv_iconst (v := 1) hx hb dL_law_812 (by decide) ?_
                                      refine lv_icmp_ne (tgt := 820) hx hb dL_law_813 (by decide) (fun c163 => ?_) (fun c163 => ?_)
                                      · have h := ite_f h c163
                                        refine lv_iconst (v := 0) hx hb dL_law_820 (by decide) ?_
                                        obtain rfl := som1 h
                                        exact J160 H locs ls hG hl
                                      · have h := ite_t h c163
                                        refine lv_iconst (v := 1) hx hb dL_law_816 (by decide) ?_
                                        refine lv_goto (tgt := 821) hx hb dL_law_817 (by decide) ?_
                                        obtain rfl := som1 h
                                        exact J160 H locs ls hG hl
                                replace h := ho154
                                refine lv_if_eq (tgt := 794) hx hb dL_law_787 (by decide) (fun c156 => ?_) (fun c156 => ?_)
                                · have h := ite_t h c156
                                  refine lv_iconst (v := 0) hx hb dL_law_794 (by decide) ?_
                                  obtain rfl := som1 h
                                  exact J155 H locs ls hG hl
                                · have h := ite_f h c156
                                  refine lv_iconst (v := 1) hx hb dL_law_790 (by decide) ?_
                                  refine lv_goto (tgt := 795) hx hb dL_law_791 (by decide) ?_
                                  obtain rfl := som1 h
                                  exact J155 H locs ls hG hl
                              replace h := ho147
                              refine lv_if_le (tgt := 783) hx hb dL_law_767 (by decide) (fun c149 => ?_) (fun c149 => ?_)
                              · have h := ite_t h c149
                                exact J148 H locs ls hG hl
                              · have h := ite_f h c149
                                refine lv_aload_n hx hb dL_law_770 rfl (lv_at hl 7 rfl) ?_
                                refine lv_iload hx hb dL_law_771 (lv_at hl 5 rfl) ?_
                                refine lv_iload hx hb dL_law_773 (lv_at hl 4 rfl) ?_
                                obtain ⟨r151, hc150, h⟩ := nbd_n h
                                refine z_i (r_runV F hG.1 (n_X5_cell l D ca g (show kd 40 = 5 from rfl) hc150) (kd_lt (show kd 40 = 5 from rfl) (by decide)) (gd5 (show kd 40 = 5 from rfl)) rfl (kw16 F.kd) (kw17 F.kd) (kw18 F.kd) (kw1 F.kd) (kw19 F.kd) yd_X5_cell ⟨Nat.le_of_ble_eq_true rfl, Nat.le_of_ble_eq_true rfl⟩ rfl hl.1 rfl (Nat.le_of_ble_eq_true rfl) dL_law_775 ⟨(show ue ≤ 600104 by omega), (show uf ≤ 7301313 by omega)⟩) rfl rfl hG (fun H locs hG => ?_)
                                refine lv_if_eq (tgt := 783) hx hb dL_law_778 (by decide) (fun c152 => ?_) (fun c152 => ?_)
                                · have h := ite_t h c152
                                  exact J148 H locs ls hG hl
                                · have h := ite_f h c152
                                  cases h
                            · have h := ite_f h c143
                              cases h
                        replace h := ho124
                        refine lv_if_eq (tgt := 701) hx hb dL_law_693 (by decide) (fun c126 => ?_) (fun c126 => ?_)
                        · have h := ite_t h c126
                          exact J125 H locs ls hG hl
                        · have h := ite_f h c126
                          refine lv_iload hx hb dL_law_696 (lv_at hl 2 rfl) ?_
                          refine lv_if_eq (tgt := 758) hx hb dL_law_698 (by decide) (fun c127 => ?_) (fun c127 => ?_)
                          · have h := ite_t h c127
                            cases h
                          · have h := ite_f h c127
                            exact J125 H locs ls hG hl
                  replace h := ho114
                  refine lv_if_eq (tgt := 669) hx hb dL_law_662 (by decide) (fun c116 => ?_) (fun c116 => ?_)
                  · have h := ite_t h c116
                    refine lv_iconst (v := 0) hx hb dL_law_669 (by decide) ?_
                    obtain rfl := som1 h
                    exact J115 H locs ls hG hl
                  · have h := ite_f h c116
                    refine lv_iconst (v := 1) hx hb dL_law_665 (by decide) ?_
                    refine lv_goto (tgt := 670) hx hb dL_law_666 (by decide) ?_
                    obtain rfl := som1 h
                    exact J115 H locs ls hG hl
              replace h := ho103
              refine lv_if_eq (tgt := 642) hx hb dL_law_625 (by decide) (fun c105 => ?_) (fun c105 => ?_)
              · have h := ite_t h c105
                refine lv_iconst (v := 0) hx hb dL_law_642 (by decide) ?_
                obtain rfl := som1 h
                exact J104 H locs ls hG hl
              · have h := ite_f h c105
                refine lv_iload hx hb dL_law_628 (lv_at hl 1 rfl) ?_
                refine lv_if_ne (tgt := 642) hx hb dL_law_630 (by decide) (fun c106 => ?_) (fun c106 => ?_)
                · have h := ite_f h c106
                  refine lv_iconst (v := 0) hx hb dL_law_642 (by decide) ?_
                  obtain rfl := som1 h
                  exact J104 H locs ls hG hl
                · have h := ite_t h c106
                  refine lv_iload hx hb dL_law_633 (lv_at hl 0 rfl) ?_
                  refine lv_if_ne (tgt := 642) hx hb dL_law_635 (by decide) (fun c107 => ?_) (fun c107 => ?_)
                  · have h := ite_f h c107
                    refine lv_iconst (v := 0) hx hb dL_law_642 (by decide) ?_
                    obtain rfl := som1 h
                    exact J104 H locs ls hG hl
                  · have h := ite_t h c107
                    refine lv_iconst (v := 1) hx hb dL_law_638 (by decide) ?_
                    refine lv_goto (tgt := 643) hx hb dL_law_639 (by decide) ?_
                    obtain rfl := som1 h
                    exact J104 H locs ls hG hl
            replace h := ho99
            refine lv_icmp_ne (tgt := 622) hx hb dL_law_615 (by decide) (fun c101 => ?_) (fun c101 => ?_)
            · have h := ite_f h c101
              refine lv_iconst (v := 0) hx hb dL_law_622 (by decide) ?_
              obtain rfl := som1 h
              exact J100 H locs ls hG hl
            · have h := ite_t h c101
              refine lv_iconst (v := 1) hx hb dL_law_618 (by decide) ?_
              refine lv_goto (tgt := 623) hx hb dL_law_619 (by decide) ?_
              obtain rfl := som1 h
              exact J100 H locs ls hG hl
        replace h := ho91
        refine lv_icmp_le (tgt := 592) hx hb dL_law_585 (by decide) (fun c93 => ?_) (fun c93 => ?_)
        · have h := ite_t h c93
          refine lv_iconst (v := 0) hx hb dL_law_592 (by decide) ?_
          obtain rfl := som1 h
          exact J92 H locs ls hG hl
        · have h := ite_f h c93
          refine lv_iconst (v := 1) hx hb dL_law_588 (by decide) ?_
          refine lv_goto (tgt := 593) hx hb dL_law_589 (by decide) ?_
          obtain rfl := som1 h
          exact J92 H locs ls hG hl
      replace h := ho80
      refine lv_if_le (tgt := 566) hx hb dL_law_549 (by decide) (fun c82 => ?_) (fun c82 => ?_)
      · have h := ite_t h c82
        refine lv_iconst (v := 0) hx hb dL_law_566 (by decide) ?_
        obtain rfl := som1 h
        exact J81 H locs ls hG hl
      · have h := ite_f h c82
        refine lv_aload hx hb dL_law_552 (lv_at hl 8 rfl) ?_
        refine lv_iload hx hb dL_law_554 (lv_at hl 17 rfl) ?_
        obtain ⟨hi83, h⟩ := chk_e h
        refine lx_aW F hA1 (by decide) hG hi83 dL_law_556 ?_
        refine lv_iconst (v := 4) hx hb dL_law_557 (by decide) ?_
        obtain ⟨hi84, h⟩ := chk_e h
        refine lx_iW F (by decide) hG hi83 hi84 dL_law_558 ?_
        refine lv_if_le (tgt := 566) hx hb dL_law_559 (by decide) (fun c85 => ?_) (fun c85 => ?_)
        · have h := ite_t h c85
          refine lv_iconst (v := 0) hx hb dL_law_566 (by decide) ?_
          obtain rfl := som1 h
          exact J81 H locs ls hG hl
        · have h := ite_f h c85
          refine lv_iconst (v := 1) hx hb dL_law_562 (by decide) ?_
          refine lv_goto (tgt := 567) hx hb dL_law_563 (by decide) ?_
          obtain rfl := som1 h
          exact J81 H locs ls hG hl
set_option maxHeartbeats 4000000 in
set_option maxRecDepth 100000 in
theorem m_S5_L923_w {p : Program} {l : Launch} {e : Env} {s : State} {m : MethodId} {args : Array Value} {below : List Frame} {meth : Method} {c : Code} {Q : State → Prop} {D : va_G} {ca : vCA} {g : Nat → Nat} {fu : Nat} {cA cB : ClassId} {nc np aW aP aC ue uf : Nat} {M : Mem} {X : Mem} {y2 : Int32} {y3 : Int32} {y4 : Int32} {y18 : Int32} {out : Int32} (F : FX p m c cL_law 31 s D ca g RL) (hst : l.stackTraces = false) (hA1 : ArrOfT s cA (.array .int)) (hA2 : ArrOfT s cB (.array .int)) (hnc : nc ≤ 6) (hnp : np ≤ 3) (hE : ue + 0 ≤ 600104) (hF : uf + 0 ≤ 7301313)
    (K : ∀ (u24 : Int32) (H : Heap) (locs : List Loc) (ls : Array Slot), out = u24 → GL D ca g s 3 cA cB nc np aW aP aC M X H locs → lv_has ls 31 [(0, .ref (ca.2.2.2.1)), (1, .ref (g 40)), (2, .int y2), (3, .int y3), (4, .int y4), (9, .ref aP), (18, .int y18), (24, .int u24)] → W p l e (room_1) s m args below meth c H locs ue uf Q (F0 m 1001 ls [])) :
    ∀ (n : Nat) (z24 : Int32) (z25 : Int32), m_S5_L923 fu (scr ca) nc np M X y2 y3 y4 y18 n z24 z25 = some out → ∀ (H : Heap) (locs : List Loc) (ls : Array Slot), GL D ca g s 3 cA cB nc np aW aP aC M X H locs → lv_has ls 31 [(0, .ref (ca.2.2.2.1)), (1, .ref (g 40)), (2, .int y2), (3, .int y3), (4, .int y4), (9, .ref aP), (10, .ref aC), (18, .int y18), (24, .int z24), (25, .int z25)] → W p l e (room_1) s m args below meth c H locs ue uf Q (F0 m 923 ls []) := by
  have hx := F.1
  have hb := F.2.1
  intro n
  induction n with
  | zero =>
    intro z24 z25 h
    exact absurd h (by simp [m_S5_L923])
  | succ n ih =>
    intro z24 z25 h H locs ls hG hl
    rw [m_S5_L923] at h
    refine lv_iload hx hb dL_law_923 (lv_at hl 9 rfl) ?_
    refine lv_bipush (v := 108) hx hb dL_law_925 (by decide) ?_
    refine lv_icmp_ge (tgt := 1001) hx hb dL_law_927 (by decide) (fun c193 => ?_) (fun c193 => ?_)
    · have h := ite_t h c193
      exact K _ _ _ _ (som1 h).symm hG (lv_sub hl [0, 1, 2, 3, 4, 5, 7, 8] rfl)
    · have h := ite_f h c193
      refine lv_aload_n hx hb dL_law_930 rfl (lv_at hl 1 rfl) ?_
      refine lv_iload hx hb dL_law_931 (lv_at hl 9 rfl) ?_
      refine lv_bipush (v := 12) hx hb dL_law_933 (by decide) ?_
      refine lv_irem hx hb dL_law_935 (by decide) ?_
      refine lv_iload hx hb dL_law_936 (lv_at hl 9 rfl) ?_
      refine lv_bipush (v := 12) hx hb dL_law_938 (by decide) ?_
      refine lv_idiv hx hb dL_law_940 (by decide) ?_
      obtain ⟨r195, hc194, h⟩ := nbd_n h
      refine z_i (r_runV F hG.1 (n_X5_cell l D ca g (show kd 40 = 5 from rfl) hc194) (kd_lt (show kd 40 = 5 from rfl) (by decide)) (gd5 (show kd 40 = 5 from rfl)) rfl (kw16 F.kd) (kw17 F.kd) (kw18 F.kd) (kw1 F.kd) (kw19 F.kd) yd_X5_cell ⟨Nat.le_of_ble_eq_true rfl, Nat.le_of_ble_eq_true rfl⟩ rfl hl.1 rfl (Nat.le_of_ble_eq_true rfl) dL_law_941 ⟨(show ue ≤ 600104 by omega), (show uf ≤ 7301313 by omega)⟩) rfl rfl hG (fun H locs hG => ?_)
      refine lv_istore (lv' := [(26, .int r195), (0, .ref (ca.2.2.2.1)), (1, .ref (g 40)), (2, .int y2), (3, .int y3), (4, .int y4), (9, .ref aP), (10, .ref aC), (18, .int y18), (24, .int z24), (25, .int z25)]) hx hb dL_law_944 hl (by decide) rfl (fun ls hl => ?_)
      refine lv_iload hx hb dL_law_946 (lv_at hl 9 rfl) ?_
      refine lv_iload hx hb dL_law_948 (lv_at hl 0 rfl) ?_
      obtain ⟨o196, ho197, h⟩ := cb1_e h
      have J198 : ∀ (H : Heap) (locs : List Loc) (ls : Array Slot), GL D ca g s 3 cA cB nc np aW aP aC M X H locs → lv_has ls 31 [(26, .int r195), (0, .ref (ca.2.2.2.1)), (1, .ref (g 40)), (2, .int y2), (3, .int y3), (4, .int y4), (9, .ref aP), (10, .ref aC), (18, .int y18), (24, .int z24), (25, .int z25)] → W p l e (room_1) s m args below meth c H locs ue uf Q (F0 m 958 ls [.int o196, .int z24]) := by
        intro H locs ls hG hl
        refine lv_iadd hx hb dL_law_958 ?_
        refine lv_topi (fun x200 ex200 => ?_)
        have h := mlet_n h ex200
        refine lv_istore (lv' := [(24, .int x200), (26, .int r195), (0, .ref (ca.2.2.2.1)), (1, .ref (g 40)), (2, .int y2), (3, .int y3), (4, .int y4), (9, .ref aP), (10, .ref aC), (18, .int y18), (25, .int z25)]) hx hb dL_law_959 hl (by decide) rfl (fun ls hl => ?_)
        refine lv_iload hx hb dL_law_961 (lv_at hl 1 rfl) ?_
        obtain ⟨o201, ho202, h⟩ := cb1_e h
        have J203 : ∀ (H : Heap) (locs : List Loc) (ls : Array Slot), GL D ca g s 3 cA cB nc np aW aP aC M X H locs → lv_has ls 31 [(24, .int x200), (26, .int r195), (0, .ref (ca.2.2.2.1)), (1, .ref (g 40)), (2, .int y2), (3, .int y3), (4, .int y4), (9, .ref aP), (10, .ref aC), (18, .int y18), (25, .int z25)] → W p l e (room_1) s m args below meth c H locs ue uf Q (F0 m 971 ls [.int o201]) := by
          intro H locs ls hG hl
          refine lv_aload hx hb dL_law_971 (lv_at hl 8 rfl) ?_
          refine lv_iload hx hb dL_law_973 (lv_at hl 10 rfl) ?_
          obtain ⟨hi205, h⟩ := chk_e h
          refine lx_iC F (by decide) hG hi205 dL_law_975 ?_
          obtain ⟨o206, ho207, h⟩ := cb1_e h
          have J208 : ∀ (H : Heap) (locs : List Loc) (ls : Array Slot), GL D ca g s 3 cA cB nc np aW aP aC M X H locs → lv_has ls 31 [(24, .int x200), (26, .int r195), (0, .ref (ca.2.2.2.1)), (1, .ref (g 40)), (2, .int y2), (3, .int y3), (4, .int y4), (9, .ref aP), (10, .ref aC), (18, .int y18), (25, .int z25)] → W p l e (room_1) s m args below meth c H locs ue uf Q (F0 m 984 ls [.int o206, .int o201]) := by
            intro H locs ls hG hl
            refine lv_icmp_ne (tgt := 993) hx hb dL_law_984 (by decide) (fun c210 => ?_) (fun c210 => ?_)
            · have h := ite_f h c210
              cases h
            · have h := ite_t h c210
              refine lv_iload hx hb dL_law_987 (lv_at hl 1 rfl) ?_
              refine lv_iconst (v := 3) hx hb dL_law_989 (by decide) ?_
              refine lv_icmp_le (tgt := 995) hx hb dL_law_990 (by decide) (fun c211 => ?_) (fun c211 => ?_)
              · have h := ite_t h c211
                obtain ⟨x212, ex212, h⟩ := mlet_e h
                refine lv_iinc (v := x212) (lv' := [(25, .int x212), (24, .int x200), (26, .int r195), (0, .ref (ca.2.2.2.1)), (1, .ref (g 40)), (2, .int y2), (3, .int y3), (4, .int y4), (9, .ref aP), (10, .ref aC), (18, .int y18)]) hx hb dL_law_995 hl (k := 10) rfl (by rw [ex212]; rfl) (by decide) rfl (fun ls hl => ?_)
                refine lv_goto (tgt := 923) hx hb dL_law_998 (by decide) ?_
                exact ih x200 x212 h _ _ _ hG (lv_sub hl [3, 4, 5, 6, 7, 8, 9, 10, 1, 0] rfl)
              · have h := ite_f h c211
                cases h
          replace h := ho207
          refine lv_if_ge (tgt := 983) hx hb dL_law_976 (by decide) (fun c209 => ?_) (fun c209 => ?_)
          · have h := ite_t h c209
            refine lv_iconst (v := 0) hx hb dL_law_983 (by decide) ?_
            obtain rfl := som1 h
            exact J208 H locs ls hG hl
          · have h := ite_f h c209
            refine lv_iconst (v := 1) hx hb dL_law_979 (by decide) ?_
            refine lv_goto (tgt := 984) hx hb dL_law_980 (by decide) ?_
            obtain rfl := som1 h
            exact J208 H locs ls hG hl
        replace h := ho202
        refine lv_if_ge (tgt := 970) hx hb dL_law_963 (by decide) (fun c204 => ?_) (fun c204 => ?_)
        · have h := ite_t h c204
          refine lv_iconst (v := 0) hx hb dL_law_970 (by decide) ?_
          obtain rfl := som1 h
          exact J203 H locs ls hG hl
        · have h := ite_f h c204
          refine lv_iconst (v := 1) hx hb dL_law_966 (by decide) ?_
          refine lv_goto (tgt := 971) hx hb dL_law_967 (by decide) ?_
          obtain rfl := som1 h
          exact J203 H locs ls hG hl
      replace h := ho197
      refine lv_if_ne (tgt := 957) hx hb dL_law_950 (by decide) (fun c199 => ?_) (fun c199 => ?_)
      · have h := ite_f h c199
        refine lv_iconst (v := 0) hx hb dL_law_957 (by decide) ?_
        obtain rfl := som1 h
        exact J198 H locs ls hG hl
      · have h := ite_t h c199
        refine lv_iconst (v := 1) hx hb dL_law_953 (by decide) ?_
        refine lv_goto (tgt := 958) hx hb dL_law_954 (by decide) ?_
        obtain rfl := som1 h
        exact J198 H locs ls hG hl
set_option maxHeartbeats 4000000 in
set_option maxRecDepth 100000 in
theorem m_S5_L1004_w {p : Program} {l : Launch} {e : Env} {s : State} {m : MethodId} {args : Array Value} {below : List Frame} {meth : Method} {c : Code} {Q : State → Prop} {D : va_G} {ca : vCA} {g : Nat → Nat} {fu : Nat} {cA cB : ClassId} {nc np aW aP aC ue uf : Nat} {M : Mem} {X : Mem} {y2 : Int32} {y3 : Int32} {y4 : Int32} {y18 : Int32} {y24 : Int32} {out : Unit} (F : FX p m c cL_law 31 s D ca g RL) (hst : l.stackTraces = false) (hA1 : ArrOfT s cA (.array .int)) (hA2 : ArrOfT s cB (.array .int)) (hnc : nc ≤ 6) (hnp : np ≤ 3) (hE : ue + 0 ≤ 600104) (hF : uf + 0 ≤ 7301313)
    (K : ∀  (H : Heap) (locs : List Loc) (ls : Array Slot), out = () → GL D ca g s 3 cA cB nc np aW aP aC M X H locs → lv_has ls 31 [(0, .ref (ca.2.2.2.1)), (1, .ref (g 40)), (2, .int y2), (3, .int y3), (4, .int y4), (18, .int y18), (24, .int y24)] → W p l e (room_1) s m args below meth c H locs ue uf Q (F0 m 1218 ls [])) :
    ∀ (n : Nat) (z25 : Int32), m_S5_L1004 fu (scr ca) nc np M X y2 y3 y4 y18 y24 n z25 = some out → ∀ (H : Heap) (locs : List Loc) (ls : Array Slot), GL D ca g s 3 cA cB nc np aW aP aC M X H locs → lv_has ls 31 [(0, .ref (ca.2.2.2.1)), (1, .ref (g 40)), (2, .int y2), (3, .int y3), (4, .int y4), (9, .ref aP), (18, .int y18), (24, .int y24), (25, .int z25)] → W p l e (room_1) s m args below meth c H locs ue uf Q (F0 m 1004 ls []) := by
  have hx := F.1
  have hb := F.2.1
  intro n
  induction n with
  | zero =>
    intro z25 h
    exact absurd h (by simp [m_S5_L1004])
  | succ n ih =>
    intro z25 h H locs ls hG hl
    rw [m_S5_L1004] at h
    refine lv_iload hx hb dL_law_1004 (lv_at hl 8 rfl) ?_
    refine lv_iload_n hx hb dL_law_1006 rfl (lv_at hl 3 rfl) ?_
    refine lv_icmp_ge (tgt := 1218) hx hb dL_law_1007 (by decide) (fun c216 => ?_) (fun c216 => ?_)
    · have h := ite_t h c216
      exact K _ _ _ (som1 h).symm hG (lv_sub hl [0, 1, 2, 3, 4, 6, 7] rfl)
    · have h := ite_f h c216
      refine lv_aload_n hx hb dL_law_1010 rfl (lv_at hl 1 rfl) ?_
      refine lv_iload hx hb dL_law_1011 (lv_at hl 8 rfl) ?_
      refine lv_iconst (v := 0) hx hb dL_law_1013 (by decide) ?_
      obtain ⟨r218, hc217, h⟩ := nbd_n h
      refine z_i (r_runV F hG.1 (n_X5_guard l D ca g (show kd 40 = 5 from rfl) hc217) (kd_lt (show kd 40 = 5 from rfl) (by decide)) (gd5 (show kd 40 = 5 from rfl)) rfl (kw141 F.kd) (kw142 F.kd) (kw143 F.kd) (kw1 F.kd) (kw144 F.kd) yd_X5_guard ⟨Nat.le_of_ble_eq_true rfl, Nat.le_of_ble_eq_true rfl⟩ rfl hl.1 rfl (Nat.le_of_ble_eq_true rfl) dL_law_1014 ⟨(show ue ≤ 600104 by omega), (show uf ≤ 7301313 by omega)⟩) rfl rfl hG (fun H locs hG => ?_)
      refine lv_istore (lv' := [(26, .int r218), (0, .ref (ca.2.2.2.1)), (1, .ref (g 40)), (2, .int y2), (3, .int y3), (4, .int y4), (9, .ref aP), (18, .int y18), (24, .int y24), (25, .int z25)]) hx hb dL_law_1017 hl (by decide) rfl (fun ls hl => ?_)
      refine lv_aload_n hx hb dL_law_1019 rfl (lv_at hl 2 rfl) ?_
      refine lv_iload hx hb dL_law_1020 (lv_at hl 9 rfl) ?_
      refine lv_iconst (v := 1) hx hb dL_law_1022 (by decide) ?_
      obtain ⟨r220, hc219, h⟩ := nbd_n h
      refine z_i (r_runV F hG.1 (n_X5_guard l D ca g (show kd 40 = 5 from rfl) hc219) (kd_lt (show kd 40 = 5 from rfl) (by decide)) (gd5 (show kd 40 = 5 from rfl)) rfl (kw141 F.kd) (kw142 F.kd) (kw143 F.kd) (kw1 F.kd) (kw144 F.kd) yd_X5_guard ⟨Nat.le_of_ble_eq_true rfl, Nat.le_of_ble_eq_true rfl⟩ rfl hl.1 rfl (Nat.le_of_ble_eq_true rfl) dL_law_1023 ⟨(show ue ≤ 600104 by omega), (show uf ≤ 7301313 by omega)⟩) rfl rfl hG (fun H locs hG => ?_)
      refine lv_istore (lv' := [(27, .int r220), (26, .int r218), (0, .ref (ca.2.2.2.1)), (1, .ref (g 40)), (2, .int y2), (3, .int y3), (4, .int y4), (9, .ref aP), (18, .int y18), (24, .int y24), (25, .int z25)]) hx hb dL_law_1026 hl (by decide) rfl (fun ls hl => ?_)
      refine lv_aload hx hb dL_law_1028 (lv_at hl 7 rfl) ?_
      refine lv_iload hx hb dL_law_1030 (lv_at hl 10 rfl) ?_
      obtain ⟨hi221, h⟩ := chk_e h
      refine lx_aP F hA2 (by decide) hG hi221 dL_law_1032 ?_
      refine lv_iconst (v := 2) hx hb dL_law_1033 (by decide) ?_
      obtain ⟨hi222, h⟩ := chk_e h
      refine lx_iP F (by decide) hG hi221 hi222 dL_law_1034 ?_
      refine lv_topi (fun x223 ex223 => ?_)
      have h := mlet_n h ex223
      refine lv_istore (lv' := [(28, .int x223), (27, .int r220), (26, .int r218), (0, .ref (ca.2.2.2.1)), (1, .ref (g 40)), (2, .int y2), (3, .int y3), (4, .int y4), (9, .ref aP), (18, .int y18), (24, .int y24), (25, .int z25)]) hx hb dL_law_1035 hl (by decide) rfl (fun ls hl => ?_)
      refine lv_iload hx hb dL_law_1037 (lv_at hl 2 rfl) ?_
      refine lv_aload hx hb dL_law_1039 (lv_at hl 8 rfl) ?_
      refine lv_iload hx hb dL_law_1041 (lv_at hl 11 rfl) ?_
      obtain ⟨hi224, h⟩ := chk_e h
      refine lx_aP F hA2 (by decide) hG hi224 dL_law_1043 ?_
      refine lv_iconst (v := 0) hx hb dL_law_1044 (by decide) ?_
      obtain ⟨hi225, h⟩ := chk_e h
      refine lx_iP F (by decide) hG hi224 hi225 dL_law_1045 ?_
      obtain ⟨o226, ho227, h⟩ := cb1_e h
      have J228 : ∀ (H : Heap) (locs : List Loc) (ls : Array Slot), GL D ca g s 3 cA cB nc np aW aP aC M X H locs → lv_has ls 31 [(28, .int x223), (27, .int r220), (26, .int r218), (0, .ref (ca.2.2.2.1)), (1, .ref (g 40)), (2, .int y2), (3, .int y3), (4, .int y4), (9, .ref aP), (18, .int y18), (24, .int y24), (25, .int z25)] → W p l e (room_1) s m args below meth c H locs ue uf Q (F0 m 1066 ls [.int o226]) := by
        intro H locs ls hG hl
        refine lv_istore (lv' := [(29, .int o226), (28, .int x223), (27, .int r220), (26, .int r218), (0, .ref (ca.2.2.2.1)), (1, .ref (g 40)), (2, .int y2), (3, .int y3), (4, .int y4), (9, .ref aP), (18, .int y18), (24, .int y24), (25, .int z25)]) hx hb dL_law_1066 hl (by decide) rfl (fun ls hl => ?_)
        refine lv_aload_n hx hb dL_law_1068 rfl (lv_at hl 5 rfl) ?_
        refine lv_iload hx hb dL_law_1069 (lv_at hl 3 rfl) ?_
        refine lv_iload hx hb dL_law_1071 (lv_at hl 2 rfl) ?_
        obtain ⟨r234, hc233, h⟩ := nbd_n h
        refine z_i (r_runV F hG.1 (n_X5_cell l D ca g (show kd 40 = 5 from rfl) hc233) (kd_lt (show kd 40 = 5 from rfl) (by decide)) (gd5 (show kd 40 = 5 from rfl)) rfl (kw16 F.kd) (kw17 F.kd) (kw18 F.kd) (kw1 F.kd) (kw19 F.kd) yd_X5_cell ⟨Nat.le_of_ble_eq_true rfl, Nat.le_of_ble_eq_true rfl⟩ rfl hl.1 rfl (Nat.le_of_ble_eq_true rfl) dL_law_1073 ⟨(show ue ≤ 600104 by omega), (show uf ≤ 7301313 by omega)⟩) rfl rfl hG (fun H locs hG => ?_)
        refine lv_if_ne (tgt := 1210) hx hb dL_law_1076 (by decide) (fun c235 => ?_) (fun c235 => ?_)
        · have h := ite_f h c235
          cases h
        · have h := ite_t h c235
          refine lv_iload hx hb dL_law_1079 (lv_at hl 0 rfl) ?_
          obtain ⟨o236, ho237, h⟩ := cb1_e h
          have J238 : ∀ (H : Heap) (locs : List Loc) (ls : Array Slot), GL D ca g s 3 cA cB nc np aW aP aC M X H locs → lv_has ls 31 [(29, .int o226), (28, .int x223), (27, .int r220), (26, .int r218), (0, .ref (ca.2.2.2.1)), (1, .ref (g 40)), (2, .int y2), (3, .int y3), (4, .int y4), (9, .ref aP), (18, .int y18), (24, .int y24), (25, .int z25)] → W p l e (room_1) s m args below meth c H locs ue uf Q (F0 m 1151 ls []) := by
            intro H locs ls hG hl
            refine lv_iload hx hb dL_law_1151 (lv_at hl 0 rfl) ?_
            obtain ⟨o256, ho257, h⟩ := cb1_e h
            have J258 : ∀ (H : Heap) (locs : List Loc) (ls : Array Slot), GL D ca g s 3 cA cB nc np aW aP aC M X H locs → lv_has ls 31 [(29, .int o226), (28, .int x223), (27, .int r220), (26, .int r218), (0, .ref (ca.2.2.2.1)), (1, .ref (g 40)), (2, .int y2), (3, .int y3), (4, .int y4), (9, .ref aP), (18, .int y18), (24, .int y24), (25, .int z25)] → W p l e (room_1) s m args below meth c H locs ue uf Q (F0 m 1212 ls []) := by
              intro H locs ls hG hl
              obtain ⟨x273, ex273, h⟩ := mlet_e h
              refine lv_iinc (v := x273) (lv' := [(25, .int x273), (29, .int o226), (28, .int x223), (27, .int r220), (26, .int r218), (0, .ref (ca.2.2.2.1)), (1, .ref (g 40)), (2, .int y2), (3, .int y3), (4, .int y4), (9, .ref aP), (18, .int y18), (24, .int y24)]) hx hb dL_law_1212 hl (k := 12) rfl (by rw [ex273]; rfl) (by decide) rfl (fun ls hl => ?_)
              refine lv_goto (tgt := 1004) hx hb dL_law_1215 (by decide) ?_
              exact ih x273 h _ _ _ hG (lv_sub hl [5, 6, 7, 8, 9, 10, 11, 12, 0] rfl)
            replace h := ho257
            refine lv_if_ne (tgt := 1212) hx hb dL_law_1153 (by decide) (fun c259 => ?_) (fun c259 => ?_)
            · have h := ite_f h c259
              exact J258 H locs ls hG hl
            · have h := ite_t h c259
              refine lv_aload_n hx hb dL_law_1156 rfl (lv_at hl 5 rfl) ?_
              refine lv_iload hx hb dL_law_1157 (lv_at hl 3 rfl) ?_
              refine lv_iload hx hb dL_law_1159 (lv_at hl 1 rfl) ?_
              refine lv_iconst (v := 1) hx hb dL_law_1161 (by decide) ?_
              obtain ⟨o260, ho261, h⟩ := cb1_e h
              have J262 : ∀ (H : Heap) (locs : List Loc) (ls : Array Slot), GL D ca g s 3 cA cB nc np aW aP aC M X H locs → lv_has ls 31 [(29, .int o226), (28, .int x223), (27, .int r220), (26, .int r218), (0, .ref (ca.2.2.2.1)), (1, .ref (g 40)), (2, .int y2), (3, .int y3), (4, .int y4), (9, .ref aP), (18, .int y18), (24, .int y24), (25, .int z25)] → W p l e (room_1) s m args below meth c H locs ue uf Q (F0 m 1180 ls [.int o260, .int r218, .ref (g 40)]) := by
                intro H locs ls hG hl
                refine lv_iadd hx hb dL_law_1180 ?_
                refine lv_iload hx hb dL_law_1181 (lv_at hl 2 rfl) ?_
                refine lv_iload hx hb dL_law_1183 (lv_at hl 1 rfl) ?_
                refine lv_iconst (v := 2) hx hb dL_law_1185 (by decide) ?_
                obtain ⟨o265, ho266, h⟩ := cb1_e h
                have J267 : ∀ (H : Heap) (locs : List Loc) (ls : Array Slot), GL D ca g s 3 cA cB nc np aW aP aC M X H locs → lv_has ls 31 [(29, .int o226), (28, .int x223), (27, .int r220), (26, .int r218), (0, .ref (ca.2.2.2.1)), (1, .ref (g 40)), (2, .int y2), (3, .int y3), (4, .int y4), (9, .ref aP), (18, .int y18), (24, .int y24), (25, .int z25)] → W p l e (room_1) s m args below meth c H locs ue uf Q (F0 m 1203 ls [.int o265, .int r220, .int (r218 + o260), .ref (g 40)]) := by
                  intro H locs ls hG hl
                  refine lv_iadd hx hb dL_law_1203 ?_
                  obtain ⟨r271, hc270, h⟩ := cb1_e h
                  refine z_i (r_runS F hG.1 (c_L_isFree l D ca g (show kd 40 = 5 from rfl) hc270) (kw592 F.kd) (kw593 F.kd) (kw0 F.kd) (kw594 F.kd) yd_L_isFree ⟨Nat.le_of_ble_eq_true rfl, Nat.le_of_ble_eq_true rfl⟩ rfl hl.1 rfl (Nat.le_of_ble_eq_true rfl) dL_law_1204 ⟨(show ue ≤ 600104 by omega), (show uf ≤ 7301313 by omega)⟩) rfl rfl hG (fun H locs hG => ?_)
                  refine lv_if_eq (tgt := 1212) hx hb dL_law_1207 (by decide) (fun c272 => ?_) (fun c272 => ?_)
                  · have h := ite_t h c272
                    exact J258 H locs ls hG hl
                  · have h := ite_f h c272
                    cases h
                replace h := ho266
                refine lv_icmp_ne (tgt := 1193) hx hb dL_law_1186 (by decide) (fun c268 => ?_) (fun c268 => ?_)
                · have h := ite_f h c268
                  refine lv_iload hx hb dL_law_1193 (lv_at hl 1 rfl) ?_
                  refine lv_if_ne (tgt := 1202) hx hb dL_law_1195 (by decide) (fun c269 => ?_) (fun c269 => ?_)
                  · have h := ite_f h c269
                    refine lv_iconst (v := 0) hx hb dL_law_1202 (by decide) ?_
                    obtain rfl := som1 h
                    exact J267 H locs ls hG hl
                  · have h := ite_t h c269
                    refine lv_iconst (v := (-1)) hx hb dL_law_1198 (by decide) ?_
                    refine lv_goto (tgt := 1203) hx hb dL_law_1199 (by decide) ?_
                    obtain rfl := som1 h
                    exact J267 H locs ls hG hl
                · have h := ite_t h c268
                  refine lv_iconst (v := 1) hx hb dL_law_1189 (by decide) ?_
                  refine lv_goto (tgt := 1203) hx hb dL_law_1190 (by decide) ?_
                  obtain rfl := som1 h
                  exact J267 H locs ls hG hl
              replace h := ho261
              refine lv_icmp_ne (tgt := 1169) hx hb dL_law_1162 (by decide) (fun c263 => ?_) (fun c263 => ?_)
              · have h := ite_f h c263
                refine lv_iload hx hb dL_law_1169 (lv_at hl 1 rfl) ?_
                refine lv_iconst (v := 3) hx hb dL_law_1171 (by decide) ?_
                refine lv_icmp_ne (tgt := 1179) hx hb dL_law_1172 (by decide) (fun c264 => ?_) (fun c264 => ?_)
                · have h := ite_f h c264
                  refine lv_iconst (v := 0) hx hb dL_law_1179 (by decide) ?_
                  obtain rfl := som1 h
                  exact J262 H locs ls hG hl
                · have h := ite_t h c264
                  refine lv_iconst (v := (-1)) hx hb dL_law_1175 (by decide) ?_
                  refine lv_goto (tgt := 1180) hx hb dL_law_1176 (by decide) ?_
                  obtain rfl := som1 h
                  exact J262 H locs ls hG hl
              · have h := ite_t h c263
                refine lv_iconst (v := 1) hx hb dL_law_1165 (by decide) ?_
                refine lv_goto (tgt := 1180) hx hb dL_law_1166 (by decide) ?_
                obtain rfl := som1 h
                exact J262 H locs ls hG hl
          replace h := ho237
          refine lv_if_eq (tgt := 1151) hx hb dL_law_1081 (by decide) (fun c239 => ?_) (fun c239 => ?_)
          · have h := ite_t h c239
            exact J238 H locs ls hG hl
          · have h := ite_f h c239
            refine lv_iload hx hb dL_law_1084 (lv_at hl 3 rfl) ?_
            refine lv_aload hx hb dL_law_1086 (lv_at hl 9 rfl) ?_
            refine lv_iload hx hb dL_law_1088 (lv_at hl 12 rfl) ?_
            obtain ⟨hi240, h⟩ := chk_e h
            refine lx_aP F hA2 (by decide) hG hi240 dL_law_1090 ?_
            refine lv_iconst (v := 0) hx hb dL_law_1091 (by decide) ?_
            obtain ⟨hi241, h⟩ := chk_e h
            refine lx_iP F (by decide) hG hi240 hi241 dL_law_1092 ?_
            refine lv_iload hx hb dL_law_1093 (lv_at hl 1 rfl) ?_
            refine lv_iconst (v := 1) hx hb dL_law_1095 (by decide) ?_
            obtain ⟨o242, ho243, h⟩ := cb1_e h
            have J244 : ∀ (H : Heap) (locs : List Loc) (ls : Array Slot), GL D ca g s 3 cA cB nc np aW aP aC M X H locs → lv_has ls 31 [(29, .int o226), (28, .int x223), (27, .int r220), (26, .int r218), (0, .ref (ca.2.2.2.1)), (1, .ref (g 40)), (2, .int y2), (3, .int y3), (4, .int y4), (9, .ref aP), (18, .int y18), (24, .int y24), (25, .int z25)] → W p l e (room_1) s m args below meth c H locs ue uf Q (F0 m 1114 ls [.int o242, .int (X (6 + z25.toNatClampNeg) (0 : Int32).toNatClampNeg), .int r218]) := by
              intro H locs ls hG hl
              refine lv_iadd hx hb dL_law_1114 ?_
              refine lv_icmp_ne (tgt := 1210) hx hb dL_law_1115 (by decide) (fun c247 => ?_) (fun c247 => ?_)
              · have h := ite_f h c247
                cases h
              · have h := ite_t h c247
                refine lv_iload hx hb dL_law_1118 (lv_at hl 2 rfl) ?_
                refine lv_aload hx hb dL_law_1120 (lv_at hl 9 rfl) ?_
                refine lv_iload hx hb dL_law_1122 (lv_at hl 12 rfl) ?_
                obtain ⟨hi248, h⟩ := chk_e h
                refine lx_aP F hA2 (by decide) hG hi248 dL_law_1124 ?_
                refine lv_iconst (v := 1) hx hb dL_law_1125 (by decide) ?_
                obtain ⟨hi249, h⟩ := chk_e h
                refine lx_iP F (by decide) hG hi248 hi249 dL_law_1126 ?_
                refine lv_iload hx hb dL_law_1127 (lv_at hl 1 rfl) ?_
                refine lv_iconst (v := 2) hx hb dL_law_1129 (by decide) ?_
                obtain ⟨o250, ho251, h⟩ := cb1_e h
                have J252 : ∀ (H : Heap) (locs : List Loc) (ls : Array Slot), GL D ca g s 3 cA cB nc np aW aP aC M X H locs → lv_has ls 31 [(29, .int o226), (28, .int x223), (27, .int r220), (26, .int r218), (0, .ref (ca.2.2.2.1)), (1, .ref (g 40)), (2, .int y2), (3, .int y3), (4, .int y4), (9, .ref aP), (18, .int y18), (24, .int y24), (25, .int z25)] → W p l e (room_1) s m args below meth c H locs ue uf Q (F0 m 1147 ls [.int o250, .int (X (6 + z25.toNatClampNeg) (1 : Int32).toNatClampNeg), .int r220]) := by
                  intro H locs ls hG hl
                  refine lv_iadd hx hb dL_law_1147 ?_
                  refine lv_icmp_ne (tgt := 1210) hx hb dL_law_1148 (by decide) (fun c255 => ?_) (fun c255 => ?_)
                  · have h := ite_f h c255
                    cases h
                  · have h := ite_t h c255
                    exact J238 H locs ls hG hl
                replace h := ho251
                refine lv_icmp_ne (tgt := 1137) hx hb dL_law_1130 (by decide) (fun c253 => ?_) (fun c253 => ?_)
                · have h := ite_f h c253
                  refine lv_iload hx hb dL_law_1137 (lv_at hl 1 rfl) ?_
                  refine lv_if_ne (tgt := 1146) hx hb dL_law_1139 (by decide) (fun c254 => ?_) (fun c254 => ?_)
                  · have h := ite_f h c254
                    refine lv_iconst (v := 0) hx hb dL_law_1146 (by decide) ?_
                    obtain rfl := som1 h
                    exact J252 H locs ls hG hl
                  · have h := ite_t h c254
                    refine lv_iconst (v := (-1)) hx hb dL_law_1142 (by decide) ?_
                    refine lv_goto (tgt := 1147) hx hb dL_law_1143 (by decide) ?_
                    obtain rfl := som1 h
                    exact J252 H locs ls hG hl
                · have h := ite_t h c253
                  refine lv_iconst (v := 1) hx hb dL_law_1133 (by decide) ?_
                  refine lv_goto (tgt := 1147) hx hb dL_law_1134 (by decide) ?_
                  obtain rfl := som1 h
                  exact J252 H locs ls hG hl
            replace h := ho243
            refine lv_icmp_ne (tgt := 1103) hx hb dL_law_1096 (by decide) (fun c245 => ?_) (fun c245 => ?_)
            · have h := ite_f h c245
              refine lv_iload hx hb dL_law_1103 (lv_at hl 1 rfl) ?_
              refine lv_iconst (v := 3) hx hb dL_law_1105 (by decide) ?_
              refine lv_icmp_ne (tgt := 1113) hx hb dL_law_1106 (by decide) (fun c246 => ?_) (fun c246 => ?_)
              · have h := ite_f h c246
                refine lv_iconst (v := 0) hx hb dL_law_1113 (by decide) ?_
                obtain rfl := som1 h
                exact J244 H locs ls hG hl
              · have h := ite_t h c246
                refine lv_iconst (v := (-1)) hx hb dL_law_1109 (by decide) ?_
                refine lv_goto (tgt := 1114) hx hb dL_law_1110 (by decide) ?_
                obtain rfl := som1 h
                exact J244 H locs ls hG hl
            · have h := ite_t h c245
              refine lv_iconst (v := 1) hx hb dL_law_1099 (by decide) ?_
              refine lv_goto (tgt := 1114) hx hb dL_law_1100 (by decide) ?_
              obtain rfl := som1 h
              exact J244 H locs ls hG hl
      replace h := ho227
      refine lv_icmp_ne (tgt := 1061) hx hb dL_law_1046 (by decide) (fun c229 => ?_) (fun c229 => ?_)
      · have h := ite_f h c229
        refine lv_iconst (v := 1) hx hb dL_law_1061 (by decide) ?_
        refine lv_goto (tgt := 1066) hx hb dL_law_1062 (by decide) ?_
        obtain rfl := som1 h
        exact J228 H locs ls hG hl
      · have h := ite_t h c229
        refine lv_iload hx hb dL_law_1049 (lv_at hl 1 rfl) ?_
        refine lv_aload hx hb dL_law_1051 (lv_at hl 8 rfl) ?_
        refine lv_iload hx hb dL_law_1053 (lv_at hl 11 rfl) ?_
        obtain ⟨hi230, h⟩ := chk_e h
        refine lx_aP F hA2 (by decide) hG hi230 dL_law_1055 ?_
        refine lv_iconst (v := 1) hx hb dL_law_1056 (by decide) ?_
        obtain ⟨hi231, h⟩ := chk_e h
        refine lx_iP F (by decide) hG hi230 hi231 dL_law_1057 ?_
        refine lv_icmp_eq (tgt := 1065) hx hb dL_law_1058 (by decide) (fun c232 => ?_) (fun c232 => ?_)
        · have h := ite_t h c232
          refine lv_iconst (v := 0) hx hb dL_law_1065 (by decide) ?_
          obtain rfl := som1 h
          exact J228 H locs ls hG hl
        · have h := ite_f h c232
          refine lv_iconst (v := 1) hx hb dL_law_1061 (by decide) ?_
          refine lv_goto (tgt := 1066) hx hb dL_law_1062 (by decide) ?_
          obtain rfl := som1 h
          exact J228 H locs ls hG hl
set_option maxHeartbeats 4000000 in
set_option maxRecDepth 100000 in
theorem m_S5_L1246_w {p : Program} {l : Launch} {e : Env} {s : State} {m : MethodId} {args : Array Value} {below : List Frame} {meth : Method} {c : Code} {Q : State → Prop} {D : va_G} {ca : vCA} {g : Nat → Nat} {fu : Nat} {cA cB : ClassId} {nc np aW aP aC ue uf : Nat} {X : Mem} {y2 : Int32} {y3 : Int32} {y4 : Int32} {y18 : Int32} {y26 : Int32} {out : Mem × Int32} (F : FX p m c cL_law 31 s D ca g RL) (hst : l.stackTraces = false) (hA1 : ArrOfT s cA (.array .int)) (hA2 : ArrOfT s cB (.array .int)) (hnc : nc ≤ 6) (hnp : np ≤ 3) (hE : ue + 0 ≤ 600104) (hF : uf + 0 ≤ 7301313)
    (K : ∀ (M1 : Mem) (u25 : Int32) (H : Heap) (locs : List Loc) (ls : Array Slot), out = (M1, u25) → GL D ca g s 3 cA cB nc np aW aP aC M1 X H locs → lv_has ls 31 [(0, .ref (ca.2.2.2.1)), (1, .ref (g 40)), (2, .int y2), (3, .int y3), (4, .int y4), (18, .int y18), (25, .int u25), (26, .int y26)] → W p l e (room_1) s m args below meth c H locs ue uf Q (F0 m 1287 ls [])) :
    ∀ (n : Nat) (M : Mem) (z25 : Int32) (z27 : Int32), m_S5_L1246 fu (scr ca) nc np X y2 y3 y4 y18 y26 n M z25 z27 = some out → ∀ (H : Heap) (locs : List Loc) (ls : Array Slot), GL D ca g s 3 cA cB nc np aW aP aC M X H locs → lv_has ls 31 [(0, .ref (ca.2.2.2.1)), (1, .ref (g 40)), (2, .int y2), (3, .int y3), (4, .int y4), (18, .int y18), (25, .int z25), (26, .int y26), (27, .int z27)] → W p l e (room_1) s m args below meth c H locs ue uf Q (F0 m 1246 ls []) := by
  have hx := F.1
  have hb := F.2.1
  intro n
  induction n with
  | zero =>
    intro M z25 z27 h
    exact absurd h (by simp [m_S5_L1246])
  | succ n ih =>
    intro M z25 z27 h H locs ls hG hl
    rw [m_S5_L1246] at h
    refine lv_iload hx hb dL_law_1246 (lv_at hl 8 rfl) ?_
    refine lv_bipush (v := 9) hx hb dL_law_1248 (by decide) ?_
    refine lv_icmp_ge (tgt := 1287) hx hb dL_law_1250 (by decide) (fun c280 => ?_) (fun c280 => ?_)
    · have h := ite_t h c280
      exact K _ _ _ _ _ (som1 h).symm hG (lv_sub hl [0, 1, 2, 3, 4, 5, 6, 7] rfl)
    · have h := ite_f h c280
      refine lv_iload hx hb dL_law_1253 (lv_at hl 6 rfl) ?_
      refine lv_if_ne (tgt := 1287) hx hb dL_law_1255 (by decide) (fun c281 => ?_) (fun c281 => ?_)
      · have h := ite_f h c281
        exact K _ _ _ _ _ (som1 h).symm hG (lv_sub hl [0, 1, 2, 3, 4, 5, 6, 7] rfl)
      · have h := ite_t h c281
        refine lv_aload_n hx hb dL_law_1258 rfl (lv_at hl 1 rfl) ?_
        refine lv_iconst (v := 0) hx hb dL_law_1259 (by decide) ?_
        refine lv_iload hx hb dL_law_1260 (lv_at hl 7 rfl) ?_
        refine lv_bipush (v := 11) hx hb dL_law_1262 (by decide) ?_
        refine lv_iload hx hb dL_law_1264 (lv_at hl 8 rfl) ?_
        obtain ⟨⟨M284, r283⟩, hc282, h⟩ := nbd_n h
        have h := up2_e h
        refine z_i (r_runV F hG.1 (n_X5_way l D ca g (show kd 40 = 5 from rfl) hc282) (kd_lt (show kd 40 = 5 from rfl) (by decide)) (gd5 (show kd 40 = 5 from rfl)) rfl (kw191 F.kd) (kw192 F.kd) (kw193 F.kd) (kw1 F.kd) (kw194 F.kd) yd_X5_way ⟨Nat.le_of_ble_eq_true rfl, Nat.le_of_ble_eq_true rfl⟩ rfl hl.1 rfl (Nat.le_of_ble_eq_true rfl) dL_law_1266 ⟨(show ue ≤ 600104 by omega), (show uf ≤ 7301313 by omega)⟩) rfl rfl hG (fun H locs hG => ?_)
        refine lv_bipush (v := 11) hx hb dL_law_1269 (by decide) ?_
        obtain ⟨o285, ho286, h⟩ := cb1_e h
        have J287 : ∀ (H : Heap) (locs : List Loc) (ls : Array Slot), GL D ca g s 3 cA cB nc np aW aP aC M284 X H locs → lv_has ls 31 [(0, .ref (ca.2.2.2.1)), (1, .ref (g 40)), (2, .int y2), (3, .int y3), (4, .int y4), (18, .int y18), (25, .int z25), (26, .int y26), (27, .int z27)] → W p l e (room_1) s m args below meth c H locs ue uf Q (F0 m 1279 ls [.int o285]) := by
          intro H locs ls hG hl
          refine lv_istore (lv' := [(25, .int o285), (0, .ref (ca.2.2.2.1)), (1, .ref (g 40)), (2, .int y2), (3, .int y3), (4, .int y4), (18, .int y18), (26, .int y26), (27, .int z27)]) hx hb dL_law_1279 hl (by decide) rfl (fun ls hl => ?_)
          obtain ⟨x289, ex289, h⟩ := mlet_e h
          refine lv_iinc (v := x289) (lv' := [(27, .int x289), (25, .int o285), (0, .ref (ca.2.2.2.1)), (1, .ref (g 40)), (2, .int y2), (3, .int y3), (4, .int y4), (18, .int y18), (26, .int y26)]) hx hb dL_law_1281 hl (k := 8) rfl (by rw [ex289]; rfl) (by decide) rfl (fun ls hl => ?_)
          refine lv_goto (tgt := 1246) hx hb dL_law_1284 (by decide) ?_
          exact ih M284 o285 x289 h _ _ _ hG (lv_sub hl [2, 3, 4, 5, 6, 7, 1, 8, 0] rfl)
        replace h := ho286
        refine lv_icmp_lt (tgt := 1278) hx hb dL_law_1271 (by decide) (fun c288 => ?_) (fun c288 => ?_)
        · have h := ite_t h c288
          refine lv_iconst (v := 0) hx hb dL_law_1278 (by decide) ?_
          obtain rfl := som1 h
          exact J287 H locs ls hG hl
        · have h := ite_f h c288
          refine lv_iconst (v := 1) hx hb dL_law_1274 (by decide) ?_
          refine lv_goto (tgt := 1279) hx hb dL_law_1275 (by decide) ?_
          obtain rfl := som1 h
          exact J287 H locs ls hG hl
set_option maxHeartbeats 4000000 in
set_option maxRecDepth 100000 in
theorem m_S5_L1236_w {p : Program} {l : Launch} {e : Env} {s : State} {m : MethodId} {args : Array Value} {below : List Frame} {meth : Method} {c : Code} {Q : State → Prop} {D : va_G} {ca : vCA} {g : Nat → Nat} {fu : Nat} {cA cB : ClassId} {nc np aW aP aC ue uf : Nat} {X : Mem} {y2 : Int32} {y3 : Int32} {y4 : Int32} {y18 : Int32} {out : Mem × Int32} (F : FX p m c cL_law 31 s D ca g RL) (hst : l.stackTraces = false) (hA1 : ArrOfT s cA (.array .int)) (hA2 : ArrOfT s cB (.array .int)) (hnc : nc ≤ 6) (hnp : np ≤ 3) (hE : ue + 0 ≤ 600104) (hF : uf + 0 ≤ 7301313)
    (K : ∀ (M1 : Mem) (u25 : Int32) (H : Heap) (locs : List Loc) (ls : Array Slot), out = (M1, u25) → GL D ca g s 3 cA cB nc np aW aP aC M1 X H locs → lv_has ls 31 [(0, .ref (ca.2.2.2.1)), (1, .ref (g 40)), (2, .int y2), (3, .int y3), (4, .int y4), (18, .int y18), (25, .int u25)] → W p l e (room_1) s m args below meth c H locs ue uf Q (F0 m 1293 ls [])) :
    ∀ (n : Nat) (M : Mem) (z25 : Int32) (z26 : Int32), m_S5_L1236 fu (scr ca) nc np X y2 y3 y4 y18 n M z25 z26 = some out → ∀ (H : Heap) (locs : List Loc) (ls : Array Slot), GL D ca g s 3 cA cB nc np aW aP aC M X H locs → lv_has ls 31 [(0, .ref (ca.2.2.2.1)), (1, .ref (g 40)), (2, .int y2), (3, .int y3), (4, .int y4), (18, .int y18), (25, .int z25), (26, .int z26)] → W p l e (room_1) s m args below meth c H locs ue uf Q (F0 m 1236 ls []) := by
  have hx := F.1
  have hb := F.2.1
  intro n
  induction n with
  | zero =>
    intro M z25 z26 h
    exact absurd h (by simp [m_S5_L1236])
  | succ n ih =>
    intro M z25 z26 h H locs ls hG hl
    rw [m_S5_L1236] at h
    refine lv_iload hx hb dL_law_1236 (lv_at hl 7 rfl) ?_
    refine lv_bipush (v := 9) hx hb dL_law_1238 (by decide) ?_
    refine lv_icmp_ge (tgt := 1293) hx hb dL_law_1240 (by decide) (fun c279 => ?_) (fun c279 => ?_)
    · have h := ite_t h c279
      exact K _ _ _ _ _ (som1 h).symm hG (lv_sub hl [0, 1, 2, 3, 4, 5, 6] rfl)
    · have h := ite_f h c279
      refine lv_iconst (v := 0) hx hb dL_law_1243 (by decide) ?_
      refine lv_istore (lv' := [(27, .int 0), (0, .ref (ca.2.2.2.1)), (1, .ref (g 40)), (2, .int y2), (3, .int y3), (4, .int y4), (18, .int y18), (25, .int z25), (26, .int z26)]) hx hb dL_law_1244 hl (by decide) rfl (fun ls hl => ?_)
      obtain ⟨o290, ho291, h⟩ := cb1_e h
      refine m_S5_L1246_w (out := o290) (ue := ue) (uf := uf) F hst hA1 hA2 hnc hnp (by omega) (by omega) ?_ _ _ _ _ ho291 _ _ _ hG (lv_sub hl [1, 2, 3, 4, 5, 6, 7, 8, 0] rfl)
      · intro M292 x293 H locs ls eo hG hl
        subst o290
        have h := up2_e h
        obtain ⟨x294, ex294, h⟩ := mlet_e h
        refine lv_iinc (v := x294) (lv' := [(26, .int x294), (0, .ref (ca.2.2.2.1)), (1, .ref (g 40)), (2, .int y2), (3, .int y3), (4, .int y4), (18, .int y18), (25, .int x293)]) hx hb dL_law_1287 hl (k := 7) rfl (by rw [ex294]; rfl) (by decide) rfl (fun ls hl => ?_)
        refine lv_goto (tgt := 1236) hx hb dL_law_1290 (by decide) ?_
        exact ih M292 x293 x294 h _ _ _ hG (lv_sub hl [1, 2, 3, 4, 5, 6, 7, 0] rfl)
set_option maxHeartbeats 8000000 in
set_option maxRecDepth 100000 in
theorem w_S5 {p : Program} {l : Launch} {e : Env} {s : State} {m : MethodId} {args : Array Value} {below : List Frame} {meth : Method} {c : Code} {Q : State → Prop} {D : va_G} {ca : vCA} {g : Nat → Nat} {fu : Nat} {cA cB : ClassId} {nc np aW aP aC ue uf : Nat} {M X : Mem} {v2 : Int32} {v3 : Int32} {v4 : Int32} {v7 : Int32} {out : Mem} (F : FX p m c cL_law 31 s D ca g RL) (hst : l.stackTraces = false) (hA1 : ArrOfT s cA (.array .int)) (hA2 : ArrOfT s cB (.array .int)) (hnc : nc ≤ 6) (hnp : np ≤ 3) (hE : ue + 0 ≤ 600104) (hF : uf + 0 ≤ 7301313) (h : m_S5 fu (scr ca) nc np M X v2 v3 v4 v7 = some out)
    (K : ∀ (M1 : Mem) (H : Heap) (locs : List Loc) (ls : Array Slot), out = M1 → GL D ca g s 3 cA cB nc np aW aP aC M1 X H locs → lv_has ls 31 [(0, .ref (ca.2.2.2.1)), (1, .ref (g 40)), (2, .int v2), (3, .int v3), (4, .int v4)] → W p l e (room_1) s m args below meth c H locs ue uf Q (F0 m 1310 ls [])) :
    ∀ (H : Heap) (locs : List Loc) (ls : Array Slot), GL D ca g s 3 cA cB nc np aW aP aC M X H locs → lv_has ls 31 [(0, .ref (ca.2.2.2.1)), (1, .ref (g 40)), (2, .int v2), (3, .int v3), (4, .int v4), (7, .int v7), (8, .ref aW), (9, .ref aP), (10, .ref aC)] → W p l e (room_1) s m args below meth c H locs ue uf Q (F0 m 293 ls []) := by
  have hx := F.1
  have hb := F.2.1
  intro H locs ls hG hl
  unfold m_S5 at h
  refine lv_aload_n hx hb dL_law_293 rfl (lv_at hl 1 rfl) ?_
  refine lv_iconst (v := 1) hx hb dL_law_294 (by decide) ?_
  obtain ⟨r2, hc1, h⟩ := nbd_n h
  refine z_i (r_runV F hG.1 (n_X5_count l D ca g (show kd 40 = 5 from rfl) hc1) (kd_lt (show kd 40 = 5 from rfl) (by decide)) (gd5 (show kd 40 = 5 from rfl)) rfl (kw163 F.kd) (kw164 F.kd) (kw165 F.kd) (kw1 F.kd) (kw166 F.kd) yd_X5_count ⟨Nat.le_of_ble_eq_true rfl, Nat.le_of_ble_eq_true rfl⟩ rfl hl.1 rfl (Nat.le_of_ble_eq_true rfl) dL_law_295 ⟨(show ue ≤ 600104 by omega), (show uf ≤ 7301313 by omega)⟩) rfl rfl hG (fun H locs hG => ?_)
  refine lv_istore (lv' := [(11, .int r2), (0, .ref (ca.2.2.2.1)), (1, .ref (g 40)), (2, .int v2), (3, .int v3), (4, .int v4), (7, .int v7), (8, .ref aW), (9, .ref aP), (10, .ref aC)]) hx hb dL_law_298 hl (by decide) rfl (fun ls hl => ?_)
  refine lv_aload_n hx hb dL_law_300 rfl (lv_at hl 2 rfl) ?_
  refine lv_iconst (v := 2) hx hb dL_law_301 (by decide) ?_
  obtain ⟨r4, hc3, h⟩ := nbd_n h
  refine z_i (r_runV F hG.1 (n_X5_count l D ca g (show kd 40 = 5 from rfl) hc3) (kd_lt (show kd 40 = 5 from rfl) (by decide)) (gd5 (show kd 40 = 5 from rfl)) rfl (kw163 F.kd) (kw164 F.kd) (kw165 F.kd) (kw1 F.kd) (kw166 F.kd) yd_X5_count ⟨Nat.le_of_ble_eq_true rfl, Nat.le_of_ble_eq_true rfl⟩ rfl hl.1 rfl (Nat.le_of_ble_eq_true rfl) dL_law_302 ⟨(show ue ≤ 600104 by omega), (show uf ≤ 7301313 by omega)⟩) rfl rfl hG (fun H locs hG => ?_)
  refine lv_istore (lv' := [(12, .int r4), (11, .int r2), (0, .ref (ca.2.2.2.1)), (1, .ref (g 40)), (2, .int v2), (3, .int v3), (4, .int v4), (7, .int v7), (8, .ref aW), (9, .ref aP), (10, .ref aC)]) hx hb dL_law_305 hl (by decide) rfl (fun ls hl => ?_)
  refine lv_aload_n hx hb dL_law_307 rfl (lv_at hl 3 rfl) ?_
  refine lv_bipush (v := 7) hx hb dL_law_308 (by decide) ?_
  obtain ⟨r6, hc5, h⟩ := nbd_n h
  refine z_i (r_runV F hG.1 (n_X5_count l D ca g (show kd 40 = 5 from rfl) hc5) (kd_lt (show kd 40 = 5 from rfl) (by decide)) (gd5 (show kd 40 = 5 from rfl)) rfl (kw163 F.kd) (kw164 F.kd) (kw165 F.kd) (kw1 F.kd) (kw166 F.kd) yd_X5_count ⟨Nat.le_of_ble_eq_true rfl, Nat.le_of_ble_eq_true rfl⟩ rfl hl.1 rfl (Nat.le_of_ble_eq_true rfl) dL_law_310 ⟨(show ue ≤ 600104 by omega), (show uf ≤ 7301313 by omega)⟩) rfl rfl hG (fun H locs hG => ?_)
  refine lv_istore (lv' := [(13, .int r6), (12, .int r4), (11, .int r2), (0, .ref (ca.2.2.2.1)), (1, .ref (g 40)), (2, .int v2), (3, .int v3), (4, .int v4), (7, .int v7), (8, .ref aW), (9, .ref aP), (10, .ref aC)]) hx hb dL_law_313 hl (by decide) rfl (fun ls hl => ?_)
  refine lv_aload_n hx hb dL_law_315 rfl (lv_at hl 4 rfl) ?_
  obtain ⟨r8, hc7, h⟩ := cb1_e h
  refine z_l (r_runV F hG.1 (c_X5_digest l D ca g (show kd 40 = 5 from rfl) hc7) (kd_lt (show kd 40 = 5 from rfl) (by decide)) (gd5 (show kd 40 = 5 from rfl)) rfl (kw354 F.kd) (kw355 F.kd) (kw356 F.kd) (kw1 F.kd) (kw357 F.kd) yd_X5_digest ⟨Nat.le_of_ble_eq_true rfl, Nat.le_of_ble_eq_true rfl⟩ rfl hl.1 rfl (Nat.le_of_ble_eq_true rfl) dL_law_316 ⟨(show ue ≤ 600104 by omega), (show uf ≤ 7301313 by omega)⟩) rfl rfl hG (fun H locs hG => ?_)
  refine lv_lstore (lv' := [(14, .long r8), (13, .int r6), (12, .int r4), (11, .int r2), (0, .ref (ca.2.2.2.1)), (1, .ref (g 40)), (2, .int v2), (3, .int v3), (4, .int v4), (7, .int v7), (8, .ref aW), (9, .ref aP), (10, .ref aC)]) hx hb dL_law_319 hl (by decide) rfl (fun ls hl => ?_)
  refine lv_aload_n hx hb dL_law_321 rfl (lv_at hl 5 rfl) ?_
  refine lv_iconst (v := 1) hx hb dL_law_322 (by decide) ?_
  refine lv_iconst (v := 0) hx hb dL_law_323 (by decide) ?_
  obtain ⟨⟨M11, r10⟩, hc9, h⟩ := nbd_n h
  have h := up2_e h
  refine z_i (r_runV F hG.1 (n_X5_foresee l D ca g (show kd 40 = 5 from rfl) hc9) (kd_lt (show kd 40 = 5 from rfl) (by decide)) (gd5 (show kd 40 = 5 from rfl)) rfl (kw319 F.kd) (kw320 F.kd) (kw321 F.kd) (kw1 F.kd) (kw322 F.kd) yd_X5_foresee ⟨Nat.le_of_ble_eq_true rfl, Nat.le_of_ble_eq_true rfl⟩ rfl hl.1 rfl (Nat.le_of_ble_eq_true rfl) dL_law_324 ⟨(show ue ≤ 600104 by omega), (show uf ≤ 7301313 by omega)⟩) rfl rfl hG (fun H locs hG => ?_)
  refine lv_istore (lv' := [(16, .int r10), (14, .long r8), (13, .int r6), (12, .int r4), (11, .int r2), (0, .ref (ca.2.2.2.1)), (1, .ref (g 40)), (2, .int v2), (3, .int v3), (4, .int v4), (7, .int v7), (8, .ref aW), (9, .ref aP), (10, .ref aC)]) hx hb dL_law_327 hl (by decide) rfl (fun ls hl => ?_)
  refine lv_aload_n hx hb dL_law_329 rfl (lv_at hl 6 rfl) ?_
  obtain ⟨M14, r13, hc12, h⟩ := cb2_e h
  refine z_i (r_runV F hG.1 (c_X5_shuts l D ca g (show kd 40 = 5 from rfl) hc12) (kd_lt (show kd 40 = 5 from rfl) (by decide)) (gd5 (show kd 40 = 5 from rfl)) rfl (kw219 F.kd) (kw220 F.kd) (kw221 F.kd) (kw1 F.kd) (kw222 F.kd) yd_X5_shuts ⟨Nat.le_of_ble_eq_true rfl, Nat.le_of_ble_eq_true rfl⟩ rfl hl.1 rfl (Nat.le_of_ble_eq_true rfl) dL_law_330 ⟨(show ue ≤ 600104 by omega), (show uf ≤ 7301313 by omega)⟩) rfl rfl hG (fun H locs hG => ?_)
  refine lv_istore (lv' := [(17, .int r13), (16, .int r10), (14, .long r8), (13, .int r6), (12, .int r4), (11, .int r2), (0, .ref (ca.2.2.2.1)), (1, .ref (g 40)), (2, .int v2), (3, .int v3), (4, .int v4), (7, .int v7), (8, .ref aW), (9, .ref aP), (10, .ref aC)]) hx hb dL_law_333 hl (by decide) rfl (fun ls hl => ?_)
  refine lv_aload_n hx hb dL_law_335 rfl (lv_at hl 7 rfl) ?_
  refine lv_iconst (v := 1) hx hb dL_law_336 (by decide) ?_
  refine lv_iconst (v := 2) hx hb dL_law_337 (by decide) ?_
  obtain ⟨⟨M17, r16⟩, hc15, h⟩ := nbd_n h
  have h := up2_e h
  refine z_i (r_runV F hG.1 (n_X5_foresee l D ca g (show kd 40 = 5 from rfl) hc15) (kd_lt (show kd 40 = 5 from rfl) (by decide)) (gd5 (show kd 40 = 5 from rfl)) rfl (kw319 F.kd) (kw320 F.kd) (kw321 F.kd) (kw1 F.kd) (kw322 F.kd) yd_X5_foresee ⟨Nat.le_of_ble_eq_true rfl, Nat.le_of_ble_eq_true rfl⟩ rfl hl.1 rfl (Nat.le_of_ble_eq_true rfl) dL_law_338 ⟨(show ue ≤ 600104 by omega), (show uf ≤ 7301313 by omega)⟩) rfl rfl hG (fun H locs hG => ?_)
  refine lv_istore (lv' := [(18, .int r16), (17, .int r13), (16, .int r10), (14, .long r8), (13, .int r6), (12, .int r4), (11, .int r2), (0, .ref (ca.2.2.2.1)), (1, .ref (g 40)), (2, .int v2), (3, .int v3), (4, .int v4), (7, .int v7), (8, .ref aW), (9, .ref aP), (10, .ref aC)]) hx hb dL_law_341 hl (by decide) rfl (fun ls hl => ?_)
  refine lv_iload hx hb dL_law_343 (lv_at hl 12 rfl) ?_
  refine lv_iload_n hx hb dL_law_345 rfl (lv_at hl 9 rfl) ?_
  obtain ⟨⟨M25, o18⟩, ho19, h⟩ := cb1_e h
  have h := up2_e h
  have J20 : ∀ (H : Heap) (locs : List Loc) (ls : Array Slot), GL D ca g s 3 cA cB nc np aW aP aC M25 X H locs → lv_has ls 31 [(18, .int r16), (17, .int r13), (16, .int r10), (14, .long r8), (13, .int r6), (12, .int r4), (11, .int r2), (0, .ref (ca.2.2.2.1)), (1, .ref (g 40)), (2, .int v2), (3, .int v3), (4, .int v4), (7, .int v7), (8, .ref aW), (9, .ref aP), (10, .ref aC)] → W p l e (room_1) s m args below meth c H locs ue uf Q (F0 m 359 ls [.int o18]) := by
    intro H locs ls hG hl
    refine lv_istore (lv' := [(19, .int o18), (18, .int r16), (17, .int r13), (16, .int r10), (14, .long r8), (13, .int r6), (12, .int r4), (11, .int r2), (0, .ref (ca.2.2.2.1)), (1, .ref (g 40)), (2, .int v2), (3, .int v3), (4, .int v4), (7, .int v7), (8, .ref aW), (9, .ref aP), (10, .ref aC)]) hx hb dL_law_359 hl (by decide) rfl (fun ls hl => ?_)
    refine lv_aload_n hx hb dL_law_361 rfl (lv_at hl 9 rfl) ?_
    obtain ⟨r27, hc26, h⟩ := cb1_e h
    refine z_l (r_runV F hG.1 (c_X5_digest l D ca g (show kd 40 = 5 from rfl) hc26) (kd_lt (show kd 40 = 5 from rfl) (by decide)) (gd5 (show kd 40 = 5 from rfl)) rfl (kw354 F.kd) (kw355 F.kd) (kw356 F.kd) (kw1 F.kd) (kw357 F.kd) yd_X5_digest ⟨Nat.le_of_ble_eq_true rfl, Nat.le_of_ble_eq_true rfl⟩ rfl hl.1 rfl (Nat.le_of_ble_eq_true rfl) dL_law_362 ⟨(show ue ≤ 600104 by omega), (show uf ≤ 7301313 by omega)⟩) rfl rfl hG (fun H locs hG => ?_)
    refine lv_lload hx hb dL_law_365 (lv_at hl 4 rfl) ?_
    refine W.lcmp hx hb dL_law_367 ?_
    refine lv_if_ne (tgt := 424) hx hb dL_law_368 (by decide) (fun c28 => ?_) (fun c28 => ?_)
    · have h := ite_f h c28
      cases h
    · have h := ite_t h c28
      refine lv_iload hx hb dL_law_371 (lv_at hl 2 rfl) ?_
      refine lv_if_lt (tgt := 424) hx hb dL_law_373 (by decide) (fun c29 => ?_) (fun c29 => ?_)
      · have h := ite_t h c29
        cases h
      · have h := ite_f h c29
        refine lv_iload hx hb dL_law_376 (lv_at hl 2 rfl) ?_
        refine lv_bipush (v := 9) hx hb dL_law_378 (by decide) ?_
        refine lv_icmp_gt (tgt := 424) hx hb dL_law_380 (by decide) (fun c30 => ?_) (fun c30 => ?_)
        · have h := ite_t h c30
          cases h
        · have h := ite_f h c30
          refine lv_iload hx hb dL_law_383 (lv_at hl 0 rfl) ?_
          refine lv_bipush (v := 11) hx hb dL_law_385 (by decide) ?_
          refine lv_icmp_gt (tgt := 424) hx hb dL_law_387 (by decide) (fun c31 => ?_) (fun c31 => ?_)
          · have h := ite_t h c31
            cases h
          · have h := ite_f h c31
            refine lv_iload hx hb dL_law_390 (lv_at hl 13 rfl) ?_
            refine lv_iload_n hx hb dL_law_392 rfl (lv_at hl 10 rfl) ?_
            obtain ⟨o32, ho33, h⟩ := cb1_e h
            have J34 : ∀ (H : Heap) (locs : List Loc) (ls : Array Slot), GL D ca g s 3 cA cB nc np aW aP aC M25 X H locs → lv_has ls 31 [(19, .int o18), (18, .int r16), (17, .int r13), (16, .int r10), (14, .long r8), (13, .int r6), (12, .int r4), (11, .int r2), (0, .ref (ca.2.2.2.1)), (1, .ref (g 40)), (2, .int v2), (3, .int v3), (4, .int v4), (7, .int v7), (8, .ref aW), (9, .ref aP), (10, .ref aC)] → W p l e (room_1) s m args below meth c H locs ue uf Q (F0 m 426 ls []) := by
              intro H locs ls hG hl
              refine lv_aload_n hx hb dL_law_426 rfl (lv_at hl 9 rfl) ?_
              refine lv_iconst (v := 5) hx hb dL_law_427 (by decide) ?_
              obtain ⟨r48, hc47, h⟩ := nbd_n h
              refine z_i (r_runV F hG.1 (n_X5_count l D ca g (show kd 40 = 5 from rfl) hc47) (kd_lt (show kd 40 = 5 from rfl) (by decide)) (gd5 (show kd 40 = 5 from rfl)) rfl (kw163 F.kd) (kw164 F.kd) (kw165 F.kd) (kw1 F.kd) (kw166 F.kd) yd_X5_count ⟨Nat.le_of_ble_eq_true rfl, Nat.le_of_ble_eq_true rfl⟩ rfl hl.1 rfl (Nat.le_of_ble_eq_true rfl) dL_law_428 ⟨(show ue ≤ 600104 by omega), (show uf ≤ 7301313 by omega)⟩) rfl rfl hG (fun H locs hG => ?_)
              refine lv_istore (lv' := [(20, .int r48), (19, .int o18), (18, .int r16), (17, .int r13), (16, .int r10), (14, .long r8), (13, .int r6), (12, .int r4), (11, .int r2), (0, .ref (ca.2.2.2.1)), (1, .ref (g 40)), (2, .int v2), (3, .int v3), (4, .int v4), (7, .int v7), (8, .ref aW), (9, .ref aP), (10, .ref aC)]) hx hb dL_law_431 hl (by decide) rfl (fun ls hl => ?_)
              refine lv_aload_n hx hb dL_law_433 rfl (lv_at hl 10 rfl) ?_
              refine lv_iconst (v := 1) hx hb dL_law_434 (by decide) ?_
              obtain ⟨⟨M51, r50⟩, hc49, h⟩ := nbd_n h
              have h := up2_e h
              refine z_i (r_runV F hG.1 (n_X5_pass l D ca g (show kd 40 = 5 from rfl) hc49) (kd_lt (show kd 40 = 5 from rfl) (by decide)) (gd5 (show kd 40 = 5 from rfl)) rfl (kw243 F.kd) (kw244 F.kd) (kw245 F.kd) (kw1 F.kd) (kw246 F.kd) yd_X5_pass ⟨Nat.le_of_ble_eq_true rfl, Nat.le_of_ble_eq_true rfl⟩ rfl hl.1 rfl (Nat.le_of_ble_eq_true rfl) dL_law_435 ⟨(show ue ≤ 600104 by omega), (show uf ≤ 7301313 by omega)⟩) rfl rfl hG (fun H locs hG => ?_)
              refine lv_iload hx hb dL_law_438 (lv_at hl 0 rfl) ?_
              refine lv_iload hx hb dL_law_440 (lv_at hl 4 rfl) ?_
              refine lv_isub hx hb dL_law_442 ?_
              refine lv_icmp_ne (tgt := 475) hx hb dL_law_443 (by decide) (fun c52 => ?_) (fun c52 => ?_)
              · have h := ite_f h c52
                cases h
              · have h := ite_t h c52
                refine lv_aload_n hx hb dL_law_446 rfl (lv_at hl 10 rfl) ?_
                refine lv_iconst (v := 5) hx hb dL_law_447 (by decide) ?_
                obtain ⟨r54, hc53, h⟩ := nbd_n h
                refine z_i (r_runV F hG.1 (n_X5_count l D ca g (show kd 40 = 5 from rfl) hc53) (kd_lt (show kd 40 = 5 from rfl) (by decide)) (gd5 (show kd 40 = 5 from rfl)) rfl (kw163 F.kd) (kw164 F.kd) (kw165 F.kd) (kw1 F.kd) (kw166 F.kd) yd_X5_count ⟨Nat.le_of_ble_eq_true rfl, Nat.le_of_ble_eq_true rfl⟩ rfl hl.1 rfl (Nat.le_of_ble_eq_true rfl) dL_law_448 ⟨(show ue ≤ 600104 by omega), (show uf ≤ 7301313 by omega)⟩) rfl rfl hG (fun H locs hG => ?_)
                refine lv_iload hx hb dL_law_451 (lv_at hl 4 rfl) ?_
                refine lv_icmp_ne (tgt := 475) hx hb dL_law_453 (by decide) (fun c55 => ?_) (fun c55 => ?_)
                · have h := ite_f h c55
                  cases h
                · have h := ite_t h c55
                  refine lv_aload_n hx hb dL_law_456 rfl (lv_at hl 10 rfl) ?_
                  obtain ⟨M58, r57, hc56, h⟩ := cb2_e h
                  refine z_i (r_runV F hG.1 (c_X5_shuts l D ca g (show kd 40 = 5 from rfl) hc56) (kd_lt (show kd 40 = 5 from rfl) (by decide)) (gd5 (show kd 40 = 5 from rfl)) rfl (kw219 F.kd) (kw220 F.kd) (kw221 F.kd) (kw1 F.kd) (kw222 F.kd) yd_X5_shuts ⟨Nat.le_of_ble_eq_true rfl, Nat.le_of_ble_eq_true rfl⟩ rfl hl.1 rfl (Nat.le_of_ble_eq_true rfl) dL_law_457 ⟨(show ue ≤ 600104 by omega), (show uf ≤ 7301313 by omega)⟩) rfl rfl hG (fun H locs hG => ?_)
                  refine lv_iload hx hb dL_law_460 (lv_at hl 2 rfl) ?_
                  refine lv_icmp_ne (tgt := 475) hx hb dL_law_462 (by decide) (fun c59 => ?_) (fun c59 => ?_)
                  · have h := ite_f h c59
                    cases h
                  · have h := ite_t h c59
                    refine lv_aload_n hx hb dL_law_465 rfl (lv_at hl 10 rfl) ?_
                    refine lv_iconst (v := 1) hx hb dL_law_466 (by decide) ?_
                    obtain ⟨r61, hc60, h⟩ := nbd_n h
                    refine z_i (r_runV F hG.1 (n_X5_count l D ca g (show kd 40 = 5 from rfl) hc60) (kd_lt (show kd 40 = 5 from rfl) (by decide)) (gd5 (show kd 40 = 5 from rfl)) rfl (kw163 F.kd) (kw164 F.kd) (kw165 F.kd) (kw1 F.kd) (kw166 F.kd) yd_X5_count ⟨Nat.le_of_ble_eq_true rfl, Nat.le_of_ble_eq_true rfl⟩ rfl hl.1 rfl (Nat.le_of_ble_eq_true rfl) dL_law_467 ⟨(show ue ≤ 600104 by omega), (show uf ≤ 7301313 by omega)⟩) rfl rfl hG (fun H locs hG => ?_)
                    refine lv_iload hx hb dL_law_470 (lv_at hl 8 rfl) ?_
                    refine lv_icmp_eq (tgt := 477) hx hb dL_law_472 (by decide) (fun c62 => ?_) (fun c62 => ?_)
                    · have h := ite_t h c62
                      refine lv_iconst (v := 0) hx hb dL_law_477 (by decide) ?_
                      refine lv_istore (lv' := [(21, .int 0), (20, .int r48), (19, .int o18), (18, .int r16), (17, .int r13), (16, .int r10), (14, .long r8), (13, .int r6), (12, .int r4), (11, .int r2), (0, .ref (ca.2.2.2.1)), (1, .ref (g 40)), (2, .int v2), (3, .int v3), (4, .int v4), (7, .int v7), (8, .ref aW), (9, .ref aP), (10, .ref aC)]) hx hb dL_law_478 hl (by decide) rfl (fun ls hl => ?_)
                      refine lv_iconst (v := 0) hx hb dL_law_480 (by decide) ?_
                      refine lv_istore (lv' := [(22, .int 0), (21, .int 0), (20, .int r48), (19, .int o18), (18, .int r16), (17, .int r13), (16, .int r10), (14, .long r8), (13, .int r6), (12, .int r4), (11, .int r2), (0, .ref (ca.2.2.2.1)), (1, .ref (g 40)), (2, .int v2), (3, .int v3), (4, .int v4), (7, .int v7), (8, .ref aW), (9, .ref aP), (10, .ref aC)]) hx hb dL_law_481 hl (by decide) rfl (fun ls hl => ?_)
                      refine lv_iconst (v := 0) hx hb dL_law_483 (by decide) ?_
                      refine lv_istore (lv' := [(23, .int 0), (22, .int 0), (21, .int 0), (20, .int r48), (19, .int o18), (18, .int r16), (17, .int r13), (16, .int r10), (14, .long r8), (13, .int r6), (12, .int r4), (11, .int r2), (0, .ref (ca.2.2.2.1)), (1, .ref (g 40)), (2, .int v2), (3, .int v3), (4, .int v4), (7, .int v7), (8, .ref aW), (9, .ref aP), (10, .ref aC)]) hx hb dL_law_484 hl (by decide) rfl (fun ls hl => ?_)
                      refine lv_iconst (v := 0) hx hb dL_law_486 (by decide) ?_
                      refine lv_istore (lv' := [(24, .int 0), (23, .int 0), (22, .int 0), (21, .int 0), (20, .int r48), (19, .int o18), (18, .int r16), (17, .int r13), (16, .int r10), (14, .long r8), (13, .int r6), (12, .int r4), (11, .int r2), (0, .ref (ca.2.2.2.1)), (1, .ref (g 40)), (2, .int v2), (3, .int v3), (4, .int v4), (7, .int v7), (8, .ref aW), (9, .ref aP), (10, .ref aC)]) hx hb dL_law_487 hl (by decide) rfl (fun ls hl => ?_)
                      obtain ⟨o182, ho183, h⟩ := cb1_e h
                      refine m_S5_L489_w (out := o182) (ue := ue) (uf := uf) F hst hA1 hA2 hnc hnp (by omega) (by omega) ?_ _ _ _ _ _ ho183 _ _ _ hG (lv_sub hl [13, 14, 15, 16, 17, 19, 20, 21, 11, 10, 6, 3, 2, 1, 0] rfl)
                      · intro x184 x185 x186 H locs ls eo hG hl
                        subst o182
                        have h := up3_e h
                        refine lv_aload_n hx hb dL_law_885 rfl (lv_at hl 1 rfl) ?_
                        refine lv_bipush (v := 7) hx hb dL_law_886 (by decide) ?_
                        obtain ⟨r188, hc187, h⟩ := nbd_n h
                        refine z_i (r_runV F hG.1 (n_X5_count l D ca g (show kd 40 = 5 from rfl) hc187) (kd_lt (show kd 40 = 5 from rfl) (by decide)) (gd5 (show kd 40 = 5 from rfl)) rfl (kw163 F.kd) (kw164 F.kd) (kw165 F.kd) (kw1 F.kd) (kw166 F.kd) yd_X5_count ⟨Nat.le_of_ble_eq_true rfl, Nat.le_of_ble_eq_true rfl⟩ rfl hl.1 rfl (Nat.le_of_ble_eq_true rfl) dL_law_888 ⟨(show ue ≤ 600104 by omega), (show uf ≤ 7301313 by omega)⟩) rfl rfl hG (fun H locs hG => ?_)
                        refine lv_iload hx hb dL_law_891 (lv_at hl 8 rfl) ?_
                        refine lv_iload hx hb dL_law_893 (lv_at hl 12 rfl) ?_
                        refine lv_iadd hx hb dL_law_895 ?_
                        refine lv_icmp_ne (tgt := 915) hx hb dL_law_896 (by decide) (fun c189 => ?_) (fun c189 => ?_)
                        · have h := ite_f h c189
                          cases h
                        · have h := ite_t h c189
                          refine lv_aload_n hx hb dL_law_899 rfl (lv_at hl 1 rfl) ?_
                          refine lv_iconst (v := 2) hx hb dL_law_900 (by decide) ?_
                          obtain ⟨r191, hc190, h⟩ := nbd_n h
                          refine z_i (r_runV F hG.1 (n_X5_count l D ca g (show kd 40 = 5 from rfl) hc190) (kd_lt (show kd 40 = 5 from rfl) (by decide)) (gd5 (show kd 40 = 5 from rfl)) rfl (kw163 F.kd) (kw164 F.kd) (kw165 F.kd) (kw1 F.kd) (kw166 F.kd) yd_X5_count ⟨Nat.le_of_ble_eq_true rfl, Nat.le_of_ble_eq_true rfl⟩ rfl hl.1 rfl (Nat.le_of_ble_eq_true rfl) dL_law_901 ⟨(show ue ≤ 600104 by omega), (show uf ≤ 7301313 by omega)⟩) rfl rfl hG (fun H locs hG => ?_)
                          refine lv_iload hx hb dL_law_904 (lv_at hl 7 rfl) ?_
                          refine lv_iload hx hb dL_law_906 (lv_at hl 10 rfl) ?_
                          refine lv_iadd hx hb dL_law_908 ?_
                          refine lv_iload hx hb dL_law_909 (lv_at hl 11 rfl) ?_
                          refine lv_isub hx hb dL_law_911 ?_
                          refine lv_icmp_eq (tgt := 917) hx hb dL_law_912 (by decide) (fun c192 => ?_) (fun c192 => ?_)
                          · have h := ite_t h c192
                            refine lv_iconst (v := 0) hx hb dL_law_917 (by decide) ?_
                            refine lv_istore (lv' := [(24, .int 0), (0, .ref (ca.2.2.2.1)), (1, .ref (g 40)), (2, .int v2), (3, .int v3), (4, .int v4), (9, .ref aP), (10, .ref aC), (12, .int r4), (13, .int r6), (18, .int r16), (21, .int x184), (22, .int x185), (23, .int x186)]) hx hb dL_law_918 hl (by decide) rfl (fun ls hl => ?_)
                            refine lv_iconst (v := 0) hx hb dL_law_920 (by decide) ?_
                            refine lv_istore (lv' := [(25, .int 0), (24, .int 0), (0, .ref (ca.2.2.2.1)), (1, .ref (g 40)), (2, .int v2), (3, .int v3), (4, .int v4), (9, .ref aP), (10, .ref aC), (12, .int r4), (13, .int r6), (18, .int r16), (21, .int x184), (22, .int x185), (23, .int x186)]) hx hb dL_law_921 hl (by decide) rfl (fun ls hl => ?_)
                            obtain ⟨o213, ho214, h⟩ := cb1_e h
                            refine m_S5_L923_w (out := o213) (ue := ue) (uf := uf) F hst hA1 hA2 hnc hnp (by omega) (by omega) ?_ _ _ _ ho214 _ _ _ hG (lv_sub hl [2, 3, 4, 5, 6, 7, 8, 11, 1, 0] rfl)
                            · intro x215 H locs ls eo hG hl
                              subst o213
                              refine lv_iconst (v := 0) hx hb dL_law_1001 (by decide) ?_
                              refine lv_istore (lv' := [(25, .int 0), (0, .ref (ca.2.2.2.1)), (1, .ref (g 40)), (2, .int v2), (3, .int v3), (4, .int v4), (9, .ref aP), (18, .int r16), (24, .int x215)]) hx hb dL_law_1002 hl (by decide) rfl (fun ls hl => ?_)
                              obtain ⟨o274, ho275, h⟩ := cb1_e h
                              refine m_S5_L1004_w (out := o274) (ue := ue) (uf := uf) F hst hA1 hA2 hnc hnp (by omega) (by omega) ?_ _ _ ho275 _ _ _ hG (lv_sub hl [1, 2, 3, 4, 5, 6, 7, 8, 0] rfl)
                              · intro H locs ls eo hG hl
                                subst o274
                                refine lv_aload_n hx hb dL_law_1218 rfl (lv_at hl 1 rfl) ?_
                                refine lv_iconst (v := 3) hx hb dL_law_1219 (by decide) ?_
                                obtain ⟨r277, hc276, h⟩ := nbd_n h
                                refine z_i (r_runV F hG.1 (n_X5_count l D ca g (show kd 40 = 5 from rfl) hc276) (kd_lt (show kd 40 = 5 from rfl) (by decide)) (gd5 (show kd 40 = 5 from rfl)) rfl (kw163 F.kd) (kw164 F.kd) (kw165 F.kd) (kw1 F.kd) (kw166 F.kd) yd_X5_count ⟨Nat.le_of_ble_eq_true rfl, Nat.le_of_ble_eq_true rfl⟩ rfl hl.1 rfl (Nat.le_of_ble_eq_true rfl) dL_law_1220 ⟨(show ue ≤ 600104 by omega), (show uf ≤ 7301313 by omega)⟩) rfl rfl hG (fun H locs hG => ?_)
                                refine lv_iload hx hb dL_law_1223 (lv_at hl 6 rfl) ?_
                                refine lv_icmp_eq (tgt := 1230) hx hb dL_law_1225 (by decide) (fun c278 => ?_) (fun c278 => ?_)
                                · have h := ite_t h c278
                                  refine lv_iconst (v := 0) hx hb dL_law_1230 (by decide) ?_
                                  refine lv_istore (lv' := [(25, .int 0), (0, .ref (ca.2.2.2.1)), (1, .ref (g 40)), (2, .int v2), (3, .int v3), (4, .int v4), (18, .int r16), (24, .int x215)]) hx hb dL_law_1231 hl (by decide) rfl (fun ls hl => ?_)
                                  refine lv_iconst (v := 0) hx hb dL_law_1233 (by decide) ?_
                                  refine lv_istore (lv' := [(26, .int 0), (25, .int 0), (0, .ref (ca.2.2.2.1)), (1, .ref (g 40)), (2, .int v2), (3, .int v3), (4, .int v4), (18, .int r16), (24, .int x215)]) hx hb dL_law_1234 hl (by decide) rfl (fun ls hl => ?_)
                                  obtain ⟨o295, ho296, h⟩ := cb1_e h
                                  refine m_S5_L1236_w (out := o295) (ue := ue) (uf := uf) F hst hA1 hA2 hnc hnp (by omega) (by omega) ?_ _ _ _ _ ho296 _ _ _ hG (lv_sub hl [2, 3, 4, 5, 6, 7, 1, 0] rfl)
                                  · intro M297 x298 H locs ls eo hG hl
                                    subst o295
                                    have h := up2_e h
                                    refine lv_iload hx hb dL_law_1293 (lv_at hl 6 rfl) ?_
                                    refine lv_iload hx hb dL_law_1295 (lv_at hl 5 rfl) ?_
                                    obtain ⟨o299, ho300, h⟩ := cb1_e h
                                    have J301 : ∀ (H : Heap) (locs : List Loc) (ls : Array Slot), GL D ca g s 3 cA cB nc np aW aP aC M297 X H locs → lv_has ls 31 [(0, .ref (ca.2.2.2.1)), (1, .ref (g 40)), (2, .int v2), (3, .int v3), (4, .int v4), (18, .int r16), (25, .int x298)] → W p l e (room_1) s m args below meth c H locs ue uf Q (F0 m 1305 ls [.int o299, .int x298]) := by
                                      intro H locs ls hG hl
                                      refine lv_icmp_eq (tgt := 1310) hx hb dL_law_1305 (by decide) (fun c303 => ?_) (fun c303 => ?_)
                                      · have h := ite_t h c303
                                        exact K _ _ _ _ (som1 h).symm hG (lv_sub hl [0, 1, 2, 3, 4] rfl)
                                      · have h := ite_f h c303
                                        cases h
                                    replace h := ho300
                                    refine lv_if_le (tgt := 1304) hx hb dL_law_1297 (by decide) (fun c302 => ?_) (fun c302 => ?_)
                                    · have h := ite_t h c302
                                      refine lv_iconst (v := 0) hx hb dL_law_1304 (by decide) ?_
                                      obtain rfl := som1 h
                                      exact J301 H locs ls hG hl
                                    · have h := ite_f h c302
                                      refine lv_iconst (v := 1) hx hb dL_law_1300 (by decide) ?_
                                      refine lv_goto (tgt := 1305) hx hb dL_law_1301 (by decide) ?_
                                      obtain rfl := som1 h
                                      exact J301 H locs ls hG hl
                                · have h := ite_f h c278
                                  cases h
                          · have h := ite_f h c192
                            cases h
                    · have h := ite_f h c62
                      cases h
            replace h := ho33
            refine lv_icmp_ge (tgt := 426) hx hb dL_law_393 (by decide) (fun c35 => ?_) (fun c35 => ?_)
            · have h := ite_t h c35
              exact J34 H locs ls hG hl
            · have h := ite_f h c35
              refine lv_iload hx hb dL_law_396 (lv_at hl 0 rfl) ?_
              obtain ⟨o36, ho37, h⟩ := cb1_e h
              have J38 : ∀ (H : Heap) (locs : List Loc) (ls : Array Slot), GL D ca g s 3 cA cB nc np aW aP aC M25 X H locs → lv_has ls 31 [(19, .int o18), (18, .int r16), (17, .int r13), (16, .int r10), (14, .long r8), (13, .int r6), (12, .int r4), (11, .int r2), (0, .ref (ca.2.2.2.1)), (1, .ref (g 40)), (2, .int v2), (3, .int v3), (4, .int v4), (7, .int v7), (8, .ref aW), (9, .ref aP), (10, .ref aC)] → W p l e (room_1) s m args below meth c H locs ue uf Q (F0 m 406 ls [.int o36]) := by
                intro H locs ls hG hl
                refine lv_aload hx hb dL_law_406 (lv_at hl 14 rfl) ?_
                refine lv_iload hx hb dL_law_408 (lv_at hl 13 rfl) ?_
                obtain ⟨hi40, h⟩ := chk_e h
                refine lx_aW F hA1 (by decide) hG hi40 dL_law_410 ?_
                refine lv_iconst (v := 2) hx hb dL_law_411 (by decide) ?_
                obtain ⟨hi41, h⟩ := chk_e h
                refine lx_iW F (by decide) hG hi40 hi41 dL_law_412 ?_
                obtain ⟨o42, ho43, h⟩ := cb1_e h
                have J44 : ∀ (H : Heap) (locs : List Loc) (ls : Array Slot), GL D ca g s 3 cA cB nc np aW aP aC M25 X H locs → lv_has ls 31 [(19, .int o18), (18, .int r16), (17, .int r13), (16, .int r10), (14, .long r8), (13, .int r6), (12, .int r4), (11, .int r2), (0, .ref (ca.2.2.2.1)), (1, .ref (g 40)), (2, .int v2), (3, .int v3), (4, .int v4), (7, .int v7), (8, .ref aW), (9, .ref aP), (10, .ref aC)] → W p l e (room_1) s m args below meth c H locs ue uf Q (F0 m 421 ls [.int o42, .int o36]) := by
                  intro H locs ls hG hl
                  refine lv_icmp_eq (tgt := 426) hx hb dL_law_421 (by decide) (fun c46 => ?_) (fun c46 => ?_)
                  · have h := ite_t h c46
                    exact J34 H locs ls hG hl
                  · have h := ite_f h c46
                    cases h
                replace h := ho43
                refine lv_if_ne (tgt := 420) hx hb dL_law_413 (by decide) (fun c45 => ?_) (fun c45 => ?_)
                · have h := ite_f h c45
                  refine lv_iconst (v := 0) hx hb dL_law_420 (by decide) ?_
                  obtain rfl := som1 h
                  exact J44 H locs ls hG hl
                · have h := ite_t h c45
                  refine lv_iconst (v := 1) hx hb dL_law_416 (by decide) ?_
                  refine lv_goto (tgt := 421) hx hb dL_law_417 (by decide) ?_
                  obtain rfl := som1 h
                  exact J44 H locs ls hG hl
              replace h := ho37
              refine lv_if_ge (tgt := 405) hx hb dL_law_398 (by decide) (fun c39 => ?_) (fun c39 => ?_)
              · have h := ite_t h c39
                refine lv_iconst (v := 0) hx hb dL_law_405 (by decide) ?_
                obtain rfl := som1 h
                exact J38 H locs ls hG hl
              · have h := ite_f h c39
                refine lv_iconst (v := 1) hx hb dL_law_401 (by decide) ?_
                refine lv_goto (tgt := 406) hx hb dL_law_402 (by decide) ?_
                obtain rfl := som1 h
                exact J38 H locs ls hG hl
  replace h := ho19
  refine lv_icmp_ge (tgt := 358) hx hb dL_law_346 (by decide) (fun c21 => ?_) (fun c21 => ?_)
  · have h := ite_t h c21
    refine lv_iconst (v := (-1)) hx hb dL_law_358 (by decide) ?_
    obtain ⟨rfl, rfl⟩ := som2 h
    exact J20 H locs ls hG hl
  · have h := ite_f h c21
    refine lv_aload_n hx hb dL_law_349 rfl (lv_at hl 8 rfl) ?_
    refine lv_iload hx hb dL_law_350 (lv_at hl 12 rfl) ?_
    obtain ⟨⟨M24, r23⟩, hc22, h⟩ := nbd_n h
    have h := up2_e h
    refine z_i (r_runV F hG.1 (n_X5_advise l D ca g (show kd 40 = 5 from rfl) hc22) (kd_lt (show kd 40 = 5 from rfl) (by decide)) (gd5 (show kd 40 = 5 from rfl)) rfl (kw341 F.kd) (kw342 F.kd) (kw343 F.kd) (kw1 F.kd) (kw344 F.kd) yd_X5_advise ⟨Nat.le_of_ble_eq_true rfl, Nat.le_of_ble_eq_true rfl⟩ rfl hl.1 rfl (Nat.le_of_ble_eq_true rfl) dL_law_352 ⟨(show ue ≤ 600104 by omega), (show uf ≤ 7301313 by omega)⟩) rfl rfl hG (fun H locs hG => ?_)
    refine lv_goto (tgt := 359) hx hb dL_law_355 (by decide) ?_
    obtain ⟨rfl, rfl⟩ := som2 h
    exact J20 H locs ls hG hl

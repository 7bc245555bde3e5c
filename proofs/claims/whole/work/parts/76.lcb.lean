/-! ===== the law: its calls, on (laid by gl.py) ===== -/
section LB
variable {p : Program} {l : Launch} {e : Env} {s : State} {m : MethodId} {args : Array Value} {below : List Frame} {meth : Method} {c : Code} {H : Heap} {locs : List Loc} {cells slots : Nat} {Q : State → Prop}
variable {ls : Array Slot} {D : va_G} {ca : vCA} {g : Nat → Nat} {M : Mem} {b L : Nat} {xs : Nat → Int32}
set_option maxHeartbeats 4000000 in
set_option maxRecDepth 100000 in
theorem lc_patrol {fu : Nat} (hfu : 2000000 < fu) (hst : l.stackTraces = false) (F : FX p m c code 9 s D ca g RL) (hsc : LSc b L xs s g) (hI : Inv M) (hG : GW D ca g s M H locs) {i : Nat} (hi : i + 5 ≤ L) (hc : cells + 10 ≤ room_1.cells) (hs : slots + 100 ≤ room_1.slots) (hl : lv_has ls 9 (lvs g b i))
    (kk : ∀ (M1 : Mem) (H1 : Heap) (locs1 : List Loc) (ls1 : Array Slot), Inv M1 → GW D ca g s M1 H1 locs1 → lv_has ls1 9 (lvs g b i) → W p l e room_1 s m args below meth c H1 locs1 (cells + 10) (slots + 100) Q (F0 m 1257 ls1 [])) : W p l e room_1 s m args below meth c H locs cells slots Q (F0 m 558 ls []) := by
  obtain ⟨hX, hbl, hbA, hL⟩ := hsc
  have hx := F.1
  have hb := F.2.1
  replace hl : lv_has ls 9 [(0, .ref b), (1, .ref (g 40)), (2, .ref (g 44)), (3, .ref (g 69)), (4, .int (nI i))] := hl
  obtain ⟨M1, k, M2, b1, e1, e2, hk, hb1, hI2⟩ := call_patrol (fu := fu) (by omega) hI (xs (nI i + 1).toNatClampNeg) (xs (nI i + 2).toNatClampNeg) (xs (nI i + 3).toNatClampNeg) (xs (nI i + 4).toNatClampNeg)
  refine lv_aload_n hx hb dL_law_558 rfl (lv_at hl 1 rfl) ?_
  refine lv_aload_n hx hb dL_law_559 rfl (lv_at hl 0 rfl) ?_
  refine lv_iload hx hb dL_law_560 (lv_at hl 4 rfl) ?_
  refine lv_iconst (v := 1) hx hb dL_law_562 (by decide) ?_
  refine lv_iadd hx hb dL_law_563 ?_
  refine va_sld hx hb hX hbl hbA hG.2 (in_at (k := 1) hL (by omega)) dL_law_564 ?_
  refine lv_aload_n hx hb dL_law_565 rfl (lv_at hl 0 rfl) ?_
  refine lv_iload hx hb dL_law_566 (lv_at hl 4 rfl) ?_
  refine lv_iconst (v := 2) hx hb dL_law_568 (by decide) ?_
  refine lv_iadd hx hb dL_law_569 ?_
  refine va_sld hx hb hX hbl hbA hG.2 (in_at (k := 2) hL (by omega)) dL_law_570 ?_
  refine lv_aload_n hx hb dL_law_571 rfl (lv_at hl 0 rfl) ?_
  refine lv_iload hx hb dL_law_572 (lv_at hl 4 rfl) ?_
  refine lv_iconst (v := 3) hx hb dL_law_574 (by decide) ?_
  refine lv_iadd hx hb dL_law_575 ?_
  refine va_sld hx hb hX hbl hbA hG.2 (in_at (k := 3) hL (by omega)) dL_law_576 ?_
  refine lv_aload_n hx hb dL_law_577 rfl (lv_at hl 0 rfl) ?_
  refine lv_iload hx hb dL_law_578 (lv_at hl 4 rfl) ?_
  refine lv_iconst (v := 4) hx hb dL_law_580 (by decide) ?_
  refine lv_iadd hx hb dL_law_581 ?_
  refine va_sld hx hb hX hbl hbA hG.2 (in_at (k := 4) hL (by omega)) dL_law_582 ?_
  refine lv_aload_n hx hb dL_law_583 rfl (lv_at hl 3 rfl) ?_
  refine k_i (l_runSH F hG (c_L_patrol l D ca g hst (a0 := 40) (a5 := 69) rfl rfl e1) (mc := 2) (ms := 12) ⟨rfl, rfl⟩ (kw468 F.kd) (kw469 F.kd) (kw0 F.kd) (kw470 F.kd) yd_L_patrol ⟨Nat.le_of_ble_eq_true rfl, Nat.le_of_ble_eq_true rfl⟩ rfl hl.1 rfl (Nat.le_of_ble_eq_true rfl) dL_law_584 ⟨hf_of (a := 2) hc (by decide), hf_of (a := 12) hs (by decide)⟩) hG (fun H locs hG => ?_)
  refine lv_istore (lv' := [(5, .int k), (0, .ref b), (1, .ref (g 40)), (2, .ref (g 44)), (3, .ref (g 69)), (4, .int (nI i))]) hx hb dL_law_587 hl (by decide) rfl (fun ls hl => ?_)
  refine lv_aload_n hx hb dL_law_589 rfl (lv_at hl 3 rfl) ?_
  refine lv_aload_n hx hb dL_law_590 rfl (lv_at hl 1 rfl) ?_
  refine lv_iload hx hb dL_law_591 (lv_at hl 5 rfl) ?_
  refine lv_iconst (v := 1) hx hb dL_law_593 (by decide) ?_
  refine lv_iadd hx hb dL_law_594 ?_
  refine va_sld hx hb hX hbl hbA hG.2 (in_at (k := 1) hL (by omega)) dL_law_595 ?_
  refine lv_aload_n hx hb dL_law_596 rfl (lv_at hl 1 rfl) ?_
  refine lv_iload hx hb dL_law_597 (lv_at hl 5 rfl) ?_
  refine lv_iconst (v := 2) hx hb dL_law_599 (by decide) ?_
  refine lv_iadd hx hb dL_law_600 ?_
  refine va_sld hx hb hX hbl hbA hG.2 (in_at (k := 2) hL (by omega)) dL_law_601 ?_
  refine lv_aload_n hx hb dL_law_602 rfl (lv_at hl 1 rfl) ?_
  refine lv_iload hx hb dL_law_603 (lv_at hl 5 rfl) ?_
  refine lv_iconst (v := 3) hx hb dL_law_605 (by decide) ?_
  refine lv_iadd hx hb dL_law_606 ?_
  refine va_sld hx hb hX hbl hbA hG.2 (in_at (k := 3) hL (by omega)) dL_law_607 ?_
  refine lv_aload_n hx hb dL_law_608 rfl (lv_at hl 1 rfl) ?_
  refine lv_iload hx hb dL_law_609 (lv_at hl 5 rfl) ?_
  refine lv_iconst (v := 4) hx hb dL_law_611 (by decide) ?_
  refine lv_iadd hx hb dL_law_612 ?_
  refine va_sld hx hb hX hbl hbA hG.2 (in_at (k := 4) hL (by omega)) dL_law_613 ?_
  refine k_i (l_runV F hG (k := 44) (c_X7_patrol l D ca g (a0 := 44) rfl e2) (mc := 0) (ms := 0) ⟨rfl, rfl⟩ (by decide) (gd7 rfl) rfl (kw763 F.kd) (kw764 F.kd) (kw765 F.kd) (kw7 F.kd) (kw766 F.kd) yd_X7_patrol ⟨Nat.le_of_ble_eq_true rfl, Nat.le_of_ble_eq_true rfl⟩ rfl hl.1 rfl (Nat.le_of_ble_eq_true rfl) dL_law_614 ⟨hf_of (a := 2) hc (by decide), hf_of (a := 12) hs (by decide)⟩) hG (fun H locs hG => ?_)
  refine lv_istore (lv' := [(6, .int b1), (5, .int k), (0, .ref b), (1, .ref (g 40)), (2, .ref (g 44)), (3, .ref (g 69)), (4, .int (nI i))]) hx hb dL_law_617 hl (by decide) rfl (fun ls hl => ?_)
  refine lv_aload_n hx hb dL_law_619 rfl (lv_at hl 4 rfl) ?_
  refine k_i (l_runV F hG (k := 44) (c_X7_thrown l D ca g (a0 := 44) rfl (fu := fu) (r := M2 44 0) rfl) (mc := 0) (ms := 0) ⟨rfl, rfl⟩ (by decide) (gd7 rfl) rfl (kw717 F.kd) (kw718 F.kd) (kw719 F.kd) (kw7 F.kd) (kw720 F.kd) yd_X7_thrown ⟨Nat.le_of_ble_eq_true rfl, Nat.le_of_ble_eq_true rfl⟩ rfl hl.1 rfl (Nat.le_of_ble_eq_true rfl) dL_law_620 ⟨hf_of (a := 2) hc (by decide), hf_of (a := 12) hs (by decide)⟩) hG (fun H locs hG => ?_)
  refine lv_iload hx hb dL_law_623 (lv_at hl 1 rfl) ?_
  refine lv_icmp_eq (tgt := 630) hx hb dL_law_625 (by decide) (fun _ => ?_) (fun c1 => absurd hk c1)
  refine lv_iload hx hb dL_law_630 (lv_at hl 1 rfl) ?_
  refine lv_if_ne (tgt := 647) hx hb dL_law_632 (by decide) (fun _ => ?_) (fun c2 => ?_)
  · skip
    refine lv_goto (tgt := 1257) hx hb dL_law_647 (by decide) ?_
    refine W.widen (k := cells + 10) (n := slots + 100) (by omega) (by omega) ?_
    exact kk _ _ _ _ hI2 hG (lv_sub hl [2, 3, 4, 5, 6] rfl)
  · skip
    have hb2 := hb1 c2
    refine lv_aload_n hx hb dL_law_635 rfl (lv_at hl 5 rfl) ?_
    refine lv_iconst (v := 0) hx hb dL_law_636 (by decide) ?_
    refine l_lald F hG (k := 69) rfl hb2 dL_law_637 ?_
    refine lv_iload hx hb dL_law_638 (lv_at hl 0 rfl) ?_
    refine lv_i2l (v := (b1 : Int32).toInt64) hx hb dL_law_640 rfl ?_
    refine W.lcmp hx hb dL_law_641 ?_
    refine lv_if_eq (tgt := 647) hx hb dL_law_642 (by decide) (fun _ => ?_) (fun c4 => absurd ((lg_cmp_eq _ _).mpr rfl) c4)
    refine lv_goto (tgt := 1257) hx hb dL_law_647 (by decide) ?_
    refine W.widen (k := cells + 10) (n := slots + 100) (by omega) (by omega) ?_
    exact kk _ _ _ _ hI2 hG (lv_sub hl [2, 3, 4, 5, 6] rfl)
set_option maxHeartbeats 4000000 in
set_option maxRecDepth 100000 in
theorem lc_crowd {fu : Nat} (hfu : 2000000 < fu) (hst : l.stackTraces = false) (F : FX p m c code 9 s D ca g RL) (hsc : LSc b L xs s g) (hI : Inv M) (hG : GW D ca g s M H locs) {i : Nat} (hi : i + 5 ≤ L) (hc : cells + 10 ≤ room_1.cells) (hs : slots + 100 ≤ room_1.slots) (hl : lv_has ls 9 (lvs g b i))
    (kk : ∀ (M1 : Mem) (H1 : Heap) (locs1 : List Loc) (ls1 : Array Slot), Inv M1 → GW D ca g s M1 H1 locs1 → lv_has ls1 9 (lvs g b i) → W p l e room_1 s m args below meth c H1 locs1 (cells + 10) (slots + 100) Q (F0 m 1257 ls1 [])) : W p l e room_1 s m args below meth c H locs cells slots Q (F0 m 650 ls []) := by
  obtain ⟨hX, hbl, hbA, hL⟩ := hsc
  have hx := F.1
  have hb := F.2.1
  replace hl : lv_has ls 9 [(0, .ref b), (1, .ref (g 40)), (2, .ref (g 44)), (3, .ref (g 69)), (4, .int (nI i))] := hl
  obtain ⟨M1, k, M2, b1, e1, e2, hk, hb1, hI2⟩ := call_crowd (fu := fu) (by omega) hI (xs (nI i + 1).toNatClampNeg) (xs (nI i + 2).toNatClampNeg)
  refine lv_aload_n hx hb dL_law_650 rfl (lv_at hl 1 rfl) ?_
  refine lv_aload_n hx hb dL_law_651 rfl (lv_at hl 0 rfl) ?_
  refine lv_iload hx hb dL_law_652 (lv_at hl 4 rfl) ?_
  refine lv_iconst (v := 1) hx hb dL_law_654 (by decide) ?_
  refine lv_iadd hx hb dL_law_655 ?_
  refine va_sld hx hb hX hbl hbA hG.2 (in_at (k := 1) hL (by omega)) dL_law_656 ?_
  refine lv_aload_n hx hb dL_law_657 rfl (lv_at hl 0 rfl) ?_
  refine lv_iload hx hb dL_law_658 (lv_at hl 4 rfl) ?_
  refine lv_iconst (v := 2) hx hb dL_law_660 (by decide) ?_
  refine lv_iadd hx hb dL_law_661 ?_
  refine va_sld hx hb hX hbl hbA hG.2 (in_at (k := 2) hL (by omega)) dL_law_662 ?_
  refine lv_aload_n hx hb dL_law_663 rfl (lv_at hl 3 rfl) ?_
  refine k_i (l_runSH F hG (c_L_crowd l D ca g hst (a0 := 40) (a3 := 69) rfl rfl e1) (mc := 2) (ms := 12) ⟨rfl, rfl⟩ (kw481 F.kd) (kw482 F.kd) (kw0 F.kd) (kw483 F.kd) yd_L_crowd ⟨Nat.le_of_ble_eq_true rfl, Nat.le_of_ble_eq_true rfl⟩ rfl hl.1 rfl (Nat.le_of_ble_eq_true rfl) dL_law_664 ⟨hf_of (a := 2) hc (by decide), hf_of (a := 12) hs (by decide)⟩) hG (fun H locs hG => ?_)
  refine lv_istore (lv' := [(5, .int k), (0, .ref b), (1, .ref (g 40)), (2, .ref (g 44)), (3, .ref (g 69)), (4, .int (nI i))]) hx hb dL_law_667 hl (by decide) rfl (fun ls hl => ?_)
  refine lv_aload_n hx hb dL_law_669 rfl (lv_at hl 3 rfl) ?_
  refine lv_aload_n hx hb dL_law_670 rfl (lv_at hl 1 rfl) ?_
  refine lv_iload hx hb dL_law_671 (lv_at hl 5 rfl) ?_
  refine lv_iconst (v := 1) hx hb dL_law_673 (by decide) ?_
  refine lv_iadd hx hb dL_law_674 ?_
  refine va_sld hx hb hX hbl hbA hG.2 (in_at (k := 1) hL (by omega)) dL_law_675 ?_
  refine lv_aload_n hx hb dL_law_676 rfl (lv_at hl 1 rfl) ?_
  refine lv_iload hx hb dL_law_677 (lv_at hl 5 rfl) ?_
  refine lv_iconst (v := 2) hx hb dL_law_679 (by decide) ?_
  refine lv_iadd hx hb dL_law_680 ?_
  refine va_sld hx hb hX hbl hbA hG.2 (in_at (k := 2) hL (by omega)) dL_law_681 ?_
  refine k_i (l_runV F hG (k := 44) (c_X7_crowd l D ca g (a0 := 44) rfl e2) (mc := 0) (ms := 0) ⟨rfl, rfl⟩ (by decide) (gd7 rfl) rfl (kw767 F.kd) (kw768 F.kd) (kw769 F.kd) (kw7 F.kd) (kw770 F.kd) yd_X7_crowd ⟨Nat.le_of_ble_eq_true rfl, Nat.le_of_ble_eq_true rfl⟩ rfl hl.1 rfl (Nat.le_of_ble_eq_true rfl) dL_law_682 ⟨hf_of (a := 2) hc (by decide), hf_of (a := 12) hs (by decide)⟩) hG (fun H locs hG => ?_)
  refine lv_istore (lv' := [(6, .int b1), (5, .int k), (0, .ref b), (1, .ref (g 40)), (2, .ref (g 44)), (3, .ref (g 69)), (4, .int (nI i))]) hx hb dL_law_685 hl (by decide) rfl (fun ls hl => ?_)
  refine lv_aload_n hx hb dL_law_687 rfl (lv_at hl 4 rfl) ?_
  refine k_i (l_runV F hG (k := 44) (c_X7_thrown l D ca g (a0 := 44) rfl (fu := fu) (r := M2 44 0) rfl) (mc := 0) (ms := 0) ⟨rfl, rfl⟩ (by decide) (gd7 rfl) rfl (kw717 F.kd) (kw718 F.kd) (kw719 F.kd) (kw7 F.kd) (kw720 F.kd) yd_X7_thrown ⟨Nat.le_of_ble_eq_true rfl, Nat.le_of_ble_eq_true rfl⟩ rfl hl.1 rfl (Nat.le_of_ble_eq_true rfl) dL_law_688 ⟨hf_of (a := 2) hc (by decide), hf_of (a := 12) hs (by decide)⟩) hG (fun H locs hG => ?_)
  refine lv_iload hx hb dL_law_691 (lv_at hl 1 rfl) ?_
  refine lv_icmp_eq (tgt := 698) hx hb dL_law_693 (by decide) (fun _ => ?_) (fun c1 => absurd hk c1)
  refine lv_iload hx hb dL_law_698 (lv_at hl 1 rfl) ?_
  refine lv_if_ne (tgt := 715) hx hb dL_law_700 (by decide) (fun _ => ?_) (fun c2 => ?_)
  · skip
    refine lv_goto (tgt := 1257) hx hb dL_law_715 (by decide) ?_
    refine W.widen (k := cells + 10) (n := slots + 100) (by omega) (by omega) ?_
    exact kk _ _ _ _ hI2 hG (lv_sub hl [2, 3, 4, 5, 6] rfl)
  · skip
    have hb2 := hb1 c2
    refine lv_aload_n hx hb dL_law_703 rfl (lv_at hl 5 rfl) ?_
    refine lv_iconst (v := 0) hx hb dL_law_704 (by decide) ?_
    refine l_lald F hG (k := 69) rfl hb2 dL_law_705 ?_
    refine lv_iload hx hb dL_law_706 (lv_at hl 0 rfl) ?_
    refine lv_i2l (v := (b1 : Int32).toInt64) hx hb dL_law_708 rfl ?_
    refine W.lcmp hx hb dL_law_709 ?_
    refine lv_if_eq (tgt := 715) hx hb dL_law_710 (by decide) (fun _ => ?_) (fun c4 => absurd ((lg_cmp_eq _ _).mpr rfl) c4)
    refine lv_goto (tgt := 1257) hx hb dL_law_715 (by decide) ?_
    refine W.widen (k := cells + 10) (n := slots + 100) (by omega) (by omega) ?_
    exact kk _ _ _ _ hI2 hG (lv_sub hl [2, 3, 4, 5, 6] rfl)
set_option maxHeartbeats 4000000 in
set_option maxRecDepth 100000 in
theorem lc_guard {fu : Nat} (hfu : 2000000 < fu) (hst : l.stackTraces = false) (F : FX p m c code 9 s D ca g RL) (hsc : LSc b L xs s g) (hI : Inv M) (hG : GW D ca g s M H locs) {i : Nat} (hi : i + 5 ≤ L) (hc : cells + 10 ≤ room_1.cells) (hs : slots + 100 ≤ room_1.slots) (hl : lv_has ls 9 (lvs g b i))
    (kk : ∀ (M1 : Mem) (H1 : Heap) (locs1 : List Loc) (ls1 : Array Slot), Inv M1 → GW D ca g s M1 H1 locs1 → lv_has ls1 9 (lvs g b i) → W p l e room_1 s m args below meth c H1 locs1 (cells + 10) (slots + 100) Q (F0 m 1257 ls1 [])) : W p l e room_1 s m args below meth c H locs cells slots Q (F0 m 718 ls []) := by
  obtain ⟨hX, hbl, hbA, hL⟩ := hsc
  have hx := F.1
  have hb := F.2.1
  replace hl : lv_has ls 9 [(0, .ref b), (1, .ref (g 40)), (2, .ref (g 44)), (3, .ref (g 69)), (4, .int (nI i))] := hl
  obtain ⟨M1, k, M2, b1, e1, e2, hk, hb1, hI2⟩ := call_guard (fu := fu) (by omega) hI (xs (nI i + 1).toNatClampNeg) (xs (nI i + 2).toNatClampNeg)
  refine lv_aload_n hx hb dL_law_718 rfl (lv_at hl 1 rfl) ?_
  refine lv_aload_n hx hb dL_law_719 rfl (lv_at hl 0 rfl) ?_
  refine lv_iload hx hb dL_law_720 (lv_at hl 4 rfl) ?_
  refine lv_iconst (v := 1) hx hb dL_law_722 (by decide) ?_
  refine lv_iadd hx hb dL_law_723 ?_
  refine va_sld hx hb hX hbl hbA hG.2 (in_at (k := 1) hL (by omega)) dL_law_724 ?_
  refine lv_aload_n hx hb dL_law_725 rfl (lv_at hl 0 rfl) ?_
  refine lv_iload hx hb dL_law_726 (lv_at hl 4 rfl) ?_
  refine lv_iconst (v := 2) hx hb dL_law_728 (by decide) ?_
  refine lv_iadd hx hb dL_law_729 ?_
  refine va_sld hx hb hX hbl hbA hG.2 (in_at (k := 2) hL (by omega)) dL_law_730 ?_
  refine lv_aload_n hx hb dL_law_731 rfl (lv_at hl 3 rfl) ?_
  refine k_i (l_runSH F hG (c_L_guard l D ca g hst (a0 := 40) (a3 := 69) rfl rfl e1) (mc := 2) (ms := 12) ⟨rfl, rfl⟩ (kw493 F.kd) (kw494 F.kd) (kw0 F.kd) (kw495 F.kd) yd_L_guard ⟨Nat.le_of_ble_eq_true rfl, Nat.le_of_ble_eq_true rfl⟩ rfl hl.1 rfl (Nat.le_of_ble_eq_true rfl) dL_law_732 ⟨hf_of (a := 2) hc (by decide), hf_of (a := 12) hs (by decide)⟩) hG (fun H locs hG => ?_)
  refine lv_istore (lv' := [(5, .int k), (0, .ref b), (1, .ref (g 40)), (2, .ref (g 44)), (3, .ref (g 69)), (4, .int (nI i))]) hx hb dL_law_735 hl (by decide) rfl (fun ls hl => ?_)
  refine lv_aload_n hx hb dL_law_737 rfl (lv_at hl 3 rfl) ?_
  refine lv_aload_n hx hb dL_law_738 rfl (lv_at hl 1 rfl) ?_
  refine lv_iload hx hb dL_law_739 (lv_at hl 5 rfl) ?_
  refine lv_iconst (v := 1) hx hb dL_law_741 (by decide) ?_
  refine lv_iadd hx hb dL_law_742 ?_
  refine va_sld hx hb hX hbl hbA hG.2 (in_at (k := 1) hL (by omega)) dL_law_743 ?_
  refine lv_aload_n hx hb dL_law_744 rfl (lv_at hl 1 rfl) ?_
  refine lv_iload hx hb dL_law_745 (lv_at hl 5 rfl) ?_
  refine lv_iconst (v := 2) hx hb dL_law_747 (by decide) ?_
  refine lv_iadd hx hb dL_law_748 ?_
  refine va_sld hx hb hX hbl hbA hG.2 (in_at (k := 2) hL (by omega)) dL_law_749 ?_
  refine k_i (l_runV F hG (k := 44) (c_X7_guard l D ca g (a0 := 44) rfl e2) (mc := 0) (ms := 0) ⟨rfl, rfl⟩ (by decide) (gd7 rfl) rfl (kw787 F.kd) (kw788 F.kd) (kw789 F.kd) (kw7 F.kd) (kw790 F.kd) yd_X7_guard ⟨Nat.le_of_ble_eq_true rfl, Nat.le_of_ble_eq_true rfl⟩ rfl hl.1 rfl (Nat.le_of_ble_eq_true rfl) dL_law_750 ⟨hf_of (a := 2) hc (by decide), hf_of (a := 12) hs (by decide)⟩) hG (fun H locs hG => ?_)
  refine lv_istore (lv' := [(6, .int b1), (5, .int k), (0, .ref b), (1, .ref (g 40)), (2, .ref (g 44)), (3, .ref (g 69)), (4, .int (nI i))]) hx hb dL_law_753 hl (by decide) rfl (fun ls hl => ?_)
  refine lv_aload_n hx hb dL_law_755 rfl (lv_at hl 4 rfl) ?_
  refine k_i (l_runV F hG (k := 44) (c_X7_thrown l D ca g (a0 := 44) rfl (fu := fu) (r := M2 44 0) rfl) (mc := 0) (ms := 0) ⟨rfl, rfl⟩ (by decide) (gd7 rfl) rfl (kw717 F.kd) (kw718 F.kd) (kw719 F.kd) (kw7 F.kd) (kw720 F.kd) yd_X7_thrown ⟨Nat.le_of_ble_eq_true rfl, Nat.le_of_ble_eq_true rfl⟩ rfl hl.1 rfl (Nat.le_of_ble_eq_true rfl) dL_law_756 ⟨hf_of (a := 2) hc (by decide), hf_of (a := 12) hs (by decide)⟩) hG (fun H locs hG => ?_)
  refine lv_iload hx hb dL_law_759 (lv_at hl 1 rfl) ?_
  refine lv_icmp_eq (tgt := 766) hx hb dL_law_761 (by decide) (fun _ => ?_) (fun c1 => absurd hk c1)
  refine lv_iload hx hb dL_law_766 (lv_at hl 1 rfl) ?_
  refine lv_if_ne (tgt := 783) hx hb dL_law_768 (by decide) (fun _ => ?_) (fun c2 => ?_)
  · skip
    refine lv_goto (tgt := 1257) hx hb dL_law_783 (by decide) ?_
    refine W.widen (k := cells + 10) (n := slots + 100) (by omega) (by omega) ?_
    exact kk _ _ _ _ hI2 hG (lv_sub hl [2, 3, 4, 5, 6] rfl)
  · skip
    have hb2 := hb1 c2
    refine lv_aload_n hx hb dL_law_771 rfl (lv_at hl 5 rfl) ?_
    refine lv_iconst (v := 0) hx hb dL_law_772 (by decide) ?_
    refine l_lald F hG (k := 69) rfl hb2 dL_law_773 ?_
    refine lv_iload hx hb dL_law_774 (lv_at hl 0 rfl) ?_
    refine lv_i2l (v := (b1 : Int32).toInt64) hx hb dL_law_776 rfl ?_
    refine W.lcmp hx hb dL_law_777 ?_
    refine lv_if_eq (tgt := 783) hx hb dL_law_778 (by decide) (fun _ => ?_) (fun c4 => absurd ((lg_cmp_eq _ _).mpr rfl) c4)
    refine lv_goto (tgt := 1257) hx hb dL_law_783 (by decide) ?_
    refine W.widen (k := cells + 10) (n := slots + 100) (by omega) (by omega) ?_
    exact kk _ _ _ _ hI2 hG (lv_sub hl [2, 3, 4, 5, 6] rfl)
set_option maxHeartbeats 4000000 in
set_option maxRecDepth 100000 in
theorem lc_sees {fu : Nat} (hfu : 2000000 < fu) (hst : l.stackTraces = false) (F : FX p m c code 9 s D ca g RL) (hsc : LSc b L xs s g) (hI : Inv M) (hG : GW D ca g s M H locs) {i : Nat} (hi : i + 5 ≤ L) (hc : cells + 10 ≤ room_1.cells) (hs : slots + 100 ≤ room_1.slots) (hl : lv_has ls 9 (lvs g b i))
    (kk : ∀ (M1 : Mem) (H1 : Heap) (locs1 : List Loc) (ls1 : Array Slot), Inv M1 → GW D ca g s M1 H1 locs1 → lv_has ls1 9 (lvs g b i) → W p l e room_1 s m args below meth c H1 locs1 (cells + 10) (slots + 100) Q (F0 m 1257 ls1 [])) : W p l e room_1 s m args below meth c H locs cells slots Q (F0 m 786 ls []) := by
  obtain ⟨hX, hbl, hbA, hL⟩ := hsc
  have hx := F.1
  have hb := F.2.1
  replace hl : lv_has ls 9 [(0, .ref b), (1, .ref (g 40)), (2, .ref (g 44)), (3, .ref (g 69)), (4, .int (nI i))] := hl
  obtain ⟨M1, k, M2, b1, e1, e2, hk, hb1, hz, hI2⟩ := call_sees (fu := fu) (by omega) hI (xs (nI i + 1).toNatClampNeg) (xs (nI i + 2).toNatClampNeg)
  refine lv_aload_n hx hb dL_law_786 rfl (lv_at hl 1 rfl) ?_
  refine lv_aload_n hx hb dL_law_787 rfl (lv_at hl 0 rfl) ?_
  refine lv_iload hx hb dL_law_788 (lv_at hl 4 rfl) ?_
  refine lv_iconst (v := 1) hx hb dL_law_790 (by decide) ?_
  refine lv_iadd hx hb dL_law_791 ?_
  refine va_sld hx hb hX hbl hbA hG.2 (in_at (k := 1) hL (by omega)) dL_law_792 ?_
  refine lv_aload_n hx hb dL_law_793 rfl (lv_at hl 0 rfl) ?_
  refine lv_iload hx hb dL_law_794 (lv_at hl 4 rfl) ?_
  refine lv_iconst (v := 2) hx hb dL_law_796 (by decide) ?_
  refine lv_iadd hx hb dL_law_797 ?_
  refine va_sld hx hb hX hbl hbA hG.2 (in_at (k := 2) hL (by omega)) dL_law_798 ?_
  refine lv_aload_n hx hb dL_law_799 rfl (lv_at hl 3 rfl) ?_
  refine k_i (l_runSH F hG (c_L_sees l D ca g hst (a0 := 40) (a3 := 69) rfl rfl e1) (mc := 2) (ms := 12) ⟨rfl, rfl⟩ (kw506 F.kd) (kw507 F.kd) (kw0 F.kd) (kw508 F.kd) yd_L_sees ⟨Nat.le_of_ble_eq_true rfl, Nat.le_of_ble_eq_true rfl⟩ rfl hl.1 rfl (Nat.le_of_ble_eq_true rfl) dL_law_800 ⟨hf_of (a := 2) hc (by decide), hf_of (a := 12) hs (by decide)⟩) hG (fun H locs hG => ?_)
  refine lv_istore (lv' := [(5, .int k), (0, .ref b), (1, .ref (g 40)), (2, .ref (g 44)), (3, .ref (g 69)), (4, .int (nI i))]) hx hb dL_law_803 hl (by decide) rfl (fun ls hl => ?_)
  refine lv_aload_n hx hb dL_law_805 rfl (lv_at hl 3 rfl) ?_
  refine lv_aload_n hx hb dL_law_806 rfl (lv_at hl 1 rfl) ?_
  refine lv_iload hx hb dL_law_807 (lv_at hl 5 rfl) ?_
  refine lv_iconst (v := 1) hx hb dL_law_809 (by decide) ?_
  refine lv_iadd hx hb dL_law_810 ?_
  refine va_sld hx hb hX hbl hbA hG.2 (in_at (k := 1) hL (by omega)) dL_law_811 ?_
  refine lv_aload_n hx hb dL_law_812 rfl (lv_at hl 1 rfl) ?_
  refine lv_iload hx hb dL_law_813 (lv_at hl 5 rfl) ?_
  refine lv_iconst (v := 2) hx hb dL_law_815 (by decide) ?_
  refine lv_iadd hx hb dL_law_816 ?_
  refine va_sld hx hb hX hbl hbA hG.2 (in_at (k := 2) hL (by omega)) dL_law_817 ?_
  refine k_i (l_runV F hG (k := 44) (c_X7_sees l D ca g (a0 := 44) rfl e2) (mc := 0) (ms := 0) ⟨rfl, rfl⟩ (by decide) (gd7 rfl) rfl (kw800 F.kd) (kw801 F.kd) (kw802 F.kd) (kw7 F.kd) (kw803 F.kd) yd_X7_sees ⟨Nat.le_of_ble_eq_true rfl, Nat.le_of_ble_eq_true rfl⟩ rfl hl.1 rfl (Nat.le_of_ble_eq_true rfl) dL_law_818 ⟨hf_of (a := 2) hc (by decide), hf_of (a := 12) hs (by decide)⟩) hG (fun H locs hG => ?_)
  refine lv_istore (lv' := [(6, .int b1), (5, .int k), (0, .ref b), (1, .ref (g 40)), (2, .ref (g 44)), (3, .ref (g 69)), (4, .int (nI i))]) hx hb dL_law_821 hl (by decide) rfl (fun ls hl => ?_)
  refine lv_aload_n hx hb dL_law_823 rfl (lv_at hl 4 rfl) ?_
  refine k_i (l_runV F hG (k := 44) (c_X7_thrown l D ca g (a0 := 44) rfl (fu := fu) (r := M2 44 0) rfl) (mc := 0) (ms := 0) ⟨rfl, rfl⟩ (by decide) (gd7 rfl) rfl (kw717 F.kd) (kw718 F.kd) (kw719 F.kd) (kw7 F.kd) (kw720 F.kd) yd_X7_thrown ⟨Nat.le_of_ble_eq_true rfl, Nat.le_of_ble_eq_true rfl⟩ rfl hl.1 rfl (Nat.le_of_ble_eq_true rfl) dL_law_824 ⟨hf_of (a := 2) hc (by decide), hf_of (a := 12) hs (by decide)⟩) hG (fun H locs hG => ?_)
  refine lv_iload hx hb dL_law_827 (lv_at hl 1 rfl) ?_
  refine lv_icmp_eq (tgt := 834) hx hb dL_law_829 (by decide) (fun _ => ?_) (fun c1 => absurd hk c1)
  refine lv_iload hx hb dL_law_834 (lv_at hl 1 rfl) ?_
  refine lv_if_ne (tgt := 858) hx hb dL_law_836 (by decide) (fun _ => ?_) (fun c2 => ?_)
  · skip
    refine lv_goto (tgt := 1257) hx hb dL_law_858 (by decide) ?_
    refine W.widen (k := cells + 10) (n := slots + 100) (by omega) (by omega) ?_
    exact kk _ _ _ _ hI2 hG (lv_sub hl [2, 3, 4, 5, 6] rfl)
  · skip
    have hb2 := hb1 c2
    refine lv_aload_n hx hb dL_law_839 rfl (lv_at hl 5 rfl) ?_
    refine lv_iconst (v := 0) hx hb dL_law_840 (by decide) ?_
    refine l_lald F hG (k := 69) rfl hb2 dL_law_841 ?_
    refine lv_iload hx hb dL_law_842 (lv_at hl 0 rfl) ?_
    refine lv_if_eq (tgt := 851) hx hb dL_law_844 (by decide) (fun c3 => ?_) (fun c3 => ?_)
    · skip
      subst c3
      refine lv_lconst (v := 0) hx hb dL_law_851 (by decide) ?_
      refine W.lcmp hx hb dL_law_852 ?_
      refine lv_if_eq (tgt := 858) hx hb dL_law_853 (by decide) (fun _ => ?_) (fun c4 => absurd (by decide +kernel) c4)
      refine lv_goto (tgt := 1257) hx hb dL_law_858 (by decide) ?_
      refine W.widen (k := cells + 10) (n := slots + 100) (by omega) (by omega) ?_
      exact kk _ _ _ _ hI2 hG (lv_sub hl [2, 3, 4, 5, 6] rfl)
    · skip
      obtain rfl := (isb_c hz).resolve_left c3
      refine lv_lconst (v := 1) hx hb dL_law_847 (by decide) ?_
      refine lv_goto (tgt := 852) hx hb dL_law_848 (by decide) ?_
      refine W.lcmp hx hb dL_law_852 ?_
      refine lv_if_eq (tgt := 858) hx hb dL_law_853 (by decide) (fun _ => ?_) (fun c4 => absurd (by decide +kernel) c4)
      refine lv_goto (tgt := 1257) hx hb dL_law_858 (by decide) ?_
      refine W.widen (k := cells + 10) (n := slots + 100) (by omega) (by omega) ?_
      exact kk _ _ _ _ hI2 hG (lv_sub hl [2, 3, 4, 5, 6] rfl)
set_option maxHeartbeats 4000000 in
set_option maxRecDepth 100000 in
theorem lc_count {fu : Nat} (hfu : 2000000 < fu) (hst : l.stackTraces = false) (F : FX p m c code 9 s D ca g RL) (hsc : LSc b L xs s g) (hI : Inv M) (hG : GW D ca g s M H locs) {i : Nat} (hi : i + 5 ≤ L) (hc : cells + 10 ≤ room_1.cells) (hs : slots + 100 ≤ room_1.slots) (hl : lv_has ls 9 (lvs g b i))
    (kk : ∀ (M1 : Mem) (H1 : Heap) (locs1 : List Loc) (ls1 : Array Slot), Inv M1 → GW D ca g s M1 H1 locs1 → lv_has ls1 9 (lvs g b i) → W p l e room_1 s m args below meth c H1 locs1 (cells + 10) (slots + 100) Q (F0 m 1257 ls1 [])) : W p l e room_1 s m args below meth c H locs cells slots Q (F0 m 861 ls []) := by
  obtain ⟨hX, hbl, hbA, hL⟩ := hsc
  have hx := F.1
  have hb := F.2.1
  replace hl : lv_has ls 9 [(0, .ref b), (1, .ref (g 40)), (2, .ref (g 44)), (3, .ref (g 69)), (4, .int (nI i))] := hl
  obtain ⟨M1, k, M2, b1, e1, e2, hk, hb1, hI2⟩ := call_count (fu := fu) (by omega) hI (xs (nI i + 1).toNatClampNeg)
  refine lv_aload_n hx hb dL_law_861 rfl (lv_at hl 1 rfl) ?_
  refine lv_aload_n hx hb dL_law_862 rfl (lv_at hl 0 rfl) ?_
  refine lv_iload hx hb dL_law_863 (lv_at hl 4 rfl) ?_
  refine lv_iconst (v := 1) hx hb dL_law_865 (by decide) ?_
  refine lv_iadd hx hb dL_law_866 ?_
  refine va_sld hx hb hX hbl hbA hG.2 (in_at (k := 1) hL (by omega)) dL_law_867 ?_
  refine lv_aload_n hx hb dL_law_868 rfl (lv_at hl 3 rfl) ?_
  refine k_i (l_runSH F hG (c_L_count l D ca g hst (a0 := 40) (a2 := 69) rfl rfl e1) (mc := 1) (ms := 6) ⟨rfl, rfl⟩ (kw514 F.kd) (kw515 F.kd) (kw0 F.kd) (kw516 F.kd) yd_L_count ⟨Nat.le_of_ble_eq_true rfl, Nat.le_of_ble_eq_true rfl⟩ rfl hl.1 rfl (Nat.le_of_ble_eq_true rfl) dL_law_869 ⟨hf_of (a := 1) hc (by decide), hf_of (a := 6) hs (by decide)⟩) hG (fun H locs hG => ?_)
  refine lv_istore (lv' := [(5, .int k), (0, .ref b), (1, .ref (g 40)), (2, .ref (g 44)), (3, .ref (g 69)), (4, .int (nI i))]) hx hb dL_law_872 hl (by decide) rfl (fun ls hl => ?_)
  refine lv_aload_n hx hb dL_law_874 rfl (lv_at hl 3 rfl) ?_
  refine lv_aload_n hx hb dL_law_875 rfl (lv_at hl 1 rfl) ?_
  refine lv_iload hx hb dL_law_876 (lv_at hl 5 rfl) ?_
  refine lv_iconst (v := 1) hx hb dL_law_878 (by decide) ?_
  refine lv_iadd hx hb dL_law_879 ?_
  refine va_sld hx hb hX hbl hbA hG.2 (in_at (k := 1) hL (by omega)) dL_law_880 ?_
  refine k_i (l_runV F hG (k := 44) (c_X7_count l D ca g (a0 := 44) rfl e2) (mc := 1) (ms := 8) ⟨rfl, rfl⟩ (by decide) (gd7 rfl) rfl (kw804 F.kd) (kw805 F.kd) (kw806 F.kd) (kw7 F.kd) (kw807 F.kd) yd_X7_count ⟨Nat.le_of_ble_eq_true rfl, Nat.le_of_ble_eq_true rfl⟩ rfl hl.1 rfl (Nat.le_of_ble_eq_true rfl) dL_law_881 ⟨hf_of (a := 2) hc (by decide), hf_of (a := 14) hs (by decide)⟩) hG (fun H locs hG => ?_)
  refine lv_istore (lv' := [(6, .int b1), (5, .int k), (0, .ref b), (1, .ref (g 40)), (2, .ref (g 44)), (3, .ref (g 69)), (4, .int (nI i))]) hx hb dL_law_884 hl (by decide) rfl (fun ls hl => ?_)
  refine lv_aload_n hx hb dL_law_886 rfl (lv_at hl 4 rfl) ?_
  refine k_i (l_runV F hG (k := 44) (c_X7_thrown l D ca g (a0 := 44) rfl (fu := fu) (r := M2 44 0) rfl) (mc := 0) (ms := 0) ⟨rfl, rfl⟩ (by decide) (gd7 rfl) rfl (kw717 F.kd) (kw718 F.kd) (kw719 F.kd) (kw7 F.kd) (kw720 F.kd) yd_X7_thrown ⟨Nat.le_of_ble_eq_true rfl, Nat.le_of_ble_eq_true rfl⟩ rfl hl.1 rfl (Nat.le_of_ble_eq_true rfl) dL_law_887 ⟨hf_of (a := 2) hc (by decide), hf_of (a := 14) hs (by decide)⟩) hG (fun H locs hG => ?_)
  refine lv_iload hx hb dL_law_890 (lv_at hl 1 rfl) ?_
  refine lv_icmp_eq (tgt := 897) hx hb dL_law_892 (by decide) (fun _ => ?_) (fun c1 => absurd hk c1)
  refine lv_iload hx hb dL_law_897 (lv_at hl 1 rfl) ?_
  refine lv_if_ne (tgt := 914) hx hb dL_law_899 (by decide) (fun _ => ?_) (fun c2 => ?_)
  · skip
    refine lv_goto (tgt := 1257) hx hb dL_law_914 (by decide) ?_
    refine W.widen (k := cells + 10) (n := slots + 100) (by omega) (by omega) ?_
    exact kk _ _ _ _ hI2 hG (lv_sub hl [2, 3, 4, 5, 6] rfl)
  · skip
    have hb2 := hb1 c2
    refine lv_aload_n hx hb dL_law_902 rfl (lv_at hl 5 rfl) ?_
    refine lv_iconst (v := 0) hx hb dL_law_903 (by decide) ?_
    refine l_lald F hG (k := 69) rfl hb2 dL_law_904 ?_
    refine lv_iload hx hb dL_law_905 (lv_at hl 0 rfl) ?_
    refine lv_i2l (v := (b1 : Int32).toInt64) hx hb dL_law_907 rfl ?_
    refine W.lcmp hx hb dL_law_908 ?_
    refine lv_if_eq (tgt := 914) hx hb dL_law_909 (by decide) (fun _ => ?_) (fun c4 => absurd ((lg_cmp_eq _ _).mpr rfl) c4)
    refine lv_goto (tgt := 1257) hx hb dL_law_914 (by decide) ?_
    refine W.widen (k := cells + 10) (n := slots + 100) (by omega) (by omega) ?_
    exact kk _ _ _ _ hI2 hG (lv_sub hl [2, 3, 4, 5, 6] rfl)
set_option maxHeartbeats 4000000 in
set_option maxRecDepth 100000 in
theorem lc_way {fu : Nat} (hfu : 2000000 < fu) (hst : l.stackTraces = false) (F : FX p m c code 9 s D ca g RL) (hsc : LSc b L xs s g) (hI : Inv M) (hG : GW D ca g s M H locs) {i : Nat} (hi : i + 5 ≤ L) (hc : cells + 10 ≤ room_1.cells) (hs : slots + 100 ≤ room_1.slots) (hl : lv_has ls 9 (lvs g b i))
    (kk : ∀ (M1 : Mem) (H1 : Heap) (locs1 : List Loc) (ls1 : Array Slot), Inv M1 → GW D ca g s M1 H1 locs1 → lv_has ls1 9 (lvs g b i) → W p l e room_1 s m args below meth c H1 locs1 (cells + 10) (slots + 100) Q (F0 m 1257 ls1 [])) : W p l e room_1 s m args below meth c H locs cells slots Q (F0 m 917 ls []) := by
  obtain ⟨hX, hbl, hbA, hL⟩ := hsc
  have hx := F.1
  have hb := F.2.1
  replace hl : lv_has ls 9 [(0, .ref b), (1, .ref (g 40)), (2, .ref (g 44)), (3, .ref (g 69)), (4, .int (nI i))] := hl
  obtain ⟨M1, k, M2, b1, e1, e2, hk, hb1, hI2⟩ := call_way (fu := fu) (by omega) hI (xs (nI i + 1).toNatClampNeg) (xs (nI i + 2).toNatClampNeg) (xs (nI i + 3).toNatClampNeg) (xs (nI i + 4).toNatClampNeg)
  refine lv_aload_n hx hb dL_law_917 rfl (lv_at hl 1 rfl) ?_
  refine lv_aload_n hx hb dL_law_918 rfl (lv_at hl 0 rfl) ?_
  refine lv_iload hx hb dL_law_919 (lv_at hl 4 rfl) ?_
  refine lv_iconst (v := 1) hx hb dL_law_921 (by decide) ?_
  refine lv_iadd hx hb dL_law_922 ?_
  refine va_sld hx hb hX hbl hbA hG.2 (in_at (k := 1) hL (by omega)) dL_law_923 ?_
  refine lv_aload_n hx hb dL_law_924 rfl (lv_at hl 0 rfl) ?_
  refine lv_iload hx hb dL_law_925 (lv_at hl 4 rfl) ?_
  refine lv_iconst (v := 2) hx hb dL_law_927 (by decide) ?_
  refine lv_iadd hx hb dL_law_928 ?_
  refine va_sld hx hb hX hbl hbA hG.2 (in_at (k := 2) hL (by omega)) dL_law_929 ?_
  refine lv_aload_n hx hb dL_law_930 rfl (lv_at hl 0 rfl) ?_
  refine lv_iload hx hb dL_law_931 (lv_at hl 4 rfl) ?_
  refine lv_iconst (v := 3) hx hb dL_law_933 (by decide) ?_
  refine lv_iadd hx hb dL_law_934 ?_
  refine va_sld hx hb hX hbl hbA hG.2 (in_at (k := 3) hL (by omega)) dL_law_935 ?_
  refine lv_aload_n hx hb dL_law_936 rfl (lv_at hl 0 rfl) ?_
  refine lv_iload hx hb dL_law_937 (lv_at hl 4 rfl) ?_
  refine lv_iconst (v := 4) hx hb dL_law_939 (by decide) ?_
  refine lv_iadd hx hb dL_law_940 ?_
  refine va_sld hx hb hX hbl hbA hG.2 (in_at (k := 4) hL (by omega)) dL_law_941 ?_
  refine lv_aload_n hx hb dL_law_942 rfl (lv_at hl 3 rfl) ?_
  refine k_i (l_runSH F hG (c_L_way l D ca g hst (a0 := 40) (a5 := 69) rfl rfl e1) (mc := 2) (ms := 12) ⟨rfl, rfl⟩ (kw521 F.kd) (kw522 F.kd) (kw0 F.kd) (kw523 F.kd) yd_L_way ⟨Nat.le_of_ble_eq_true rfl, Nat.le_of_ble_eq_true rfl⟩ rfl hl.1 rfl (Nat.le_of_ble_eq_true rfl) dL_law_943 ⟨hf_of (a := 2) hc (by decide), hf_of (a := 12) hs (by decide)⟩) hG (fun H locs hG => ?_)
  refine lv_istore (lv' := [(5, .int k), (0, .ref b), (1, .ref (g 40)), (2, .ref (g 44)), (3, .ref (g 69)), (4, .int (nI i))]) hx hb dL_law_946 hl (by decide) rfl (fun ls hl => ?_)
  refine lv_aload_n hx hb dL_law_948 rfl (lv_at hl 3 rfl) ?_
  refine lv_aload_n hx hb dL_law_949 rfl (lv_at hl 1 rfl) ?_
  refine lv_iload hx hb dL_law_950 (lv_at hl 5 rfl) ?_
  refine lv_iconst (v := 1) hx hb dL_law_952 (by decide) ?_
  refine lv_iadd hx hb dL_law_953 ?_
  refine va_sld hx hb hX hbl hbA hG.2 (in_at (k := 1) hL (by omega)) dL_law_954 ?_
  refine lv_aload_n hx hb dL_law_955 rfl (lv_at hl 1 rfl) ?_
  refine lv_iload hx hb dL_law_956 (lv_at hl 5 rfl) ?_
  refine lv_iconst (v := 2) hx hb dL_law_958 (by decide) ?_
  refine lv_iadd hx hb dL_law_959 ?_
  refine va_sld hx hb hX hbl hbA hG.2 (in_at (k := 2) hL (by omega)) dL_law_960 ?_
  refine lv_aload_n hx hb dL_law_961 rfl (lv_at hl 1 rfl) ?_
  refine lv_iload hx hb dL_law_962 (lv_at hl 5 rfl) ?_
  refine lv_iconst (v := 3) hx hb dL_law_964 (by decide) ?_
  refine lv_iadd hx hb dL_law_965 ?_
  refine va_sld hx hb hX hbl hbA hG.2 (in_at (k := 3) hL (by omega)) dL_law_966 ?_
  refine lv_aload_n hx hb dL_law_967 rfl (lv_at hl 1 rfl) ?_
  refine lv_iload hx hb dL_law_968 (lv_at hl 5 rfl) ?_
  refine lv_iconst (v := 4) hx hb dL_law_970 (by decide) ?_
  refine lv_iadd hx hb dL_law_971 ?_
  refine va_sld hx hb hX hbl hbA hG.2 (in_at (k := 4) hL (by omega)) dL_law_972 ?_
  refine k_i (l_runV F hG (k := 44) (c_X7_way l D ca g (a0 := 44) rfl e2) (mc := 0) (ms := 0) ⟨rfl, rfl⟩ (by decide) (gd7 rfl) rfl (kw825 F.kd) (kw826 F.kd) (kw827 F.kd) (kw7 F.kd) (kw828 F.kd) yd_X7_way ⟨Nat.le_of_ble_eq_true rfl, Nat.le_of_ble_eq_true rfl⟩ rfl hl.1 rfl (Nat.le_of_ble_eq_true rfl) dL_law_973 ⟨hf_of (a := 2) hc (by decide), hf_of (a := 12) hs (by decide)⟩) hG (fun H locs hG => ?_)
  refine lv_istore (lv' := [(6, .int b1), (5, .int k), (0, .ref b), (1, .ref (g 40)), (2, .ref (g 44)), (3, .ref (g 69)), (4, .int (nI i))]) hx hb dL_law_976 hl (by decide) rfl (fun ls hl => ?_)
  refine lv_aload_n hx hb dL_law_978 rfl (lv_at hl 4 rfl) ?_
  refine k_i (l_runV F hG (k := 44) (c_X7_thrown l D ca g (a0 := 44) rfl (fu := fu) (r := M2 44 0) rfl) (mc := 0) (ms := 0) ⟨rfl, rfl⟩ (by decide) (gd7 rfl) rfl (kw717 F.kd) (kw718 F.kd) (kw719 F.kd) (kw7 F.kd) (kw720 F.kd) yd_X7_thrown ⟨Nat.le_of_ble_eq_true rfl, Nat.le_of_ble_eq_true rfl⟩ rfl hl.1 rfl (Nat.le_of_ble_eq_true rfl) dL_law_979 ⟨hf_of (a := 2) hc (by decide), hf_of (a := 12) hs (by decide)⟩) hG (fun H locs hG => ?_)
  refine lv_iload hx hb dL_law_982 (lv_at hl 1 rfl) ?_
  refine lv_icmp_eq (tgt := 989) hx hb dL_law_984 (by decide) (fun _ => ?_) (fun c1 => absurd hk c1)
  refine lv_iload hx hb dL_law_989 (lv_at hl 1 rfl) ?_
  refine lv_if_ne (tgt := 1006) hx hb dL_law_991 (by decide) (fun _ => ?_) (fun c2 => ?_)
  · skip
    refine lv_goto (tgt := 1257) hx hb dL_law_1006 (by decide) ?_
    refine W.widen (k := cells + 10) (n := slots + 100) (by omega) (by omega) ?_
    exact kk _ _ _ _ hI2 hG (lv_sub hl [2, 3, 4, 5, 6] rfl)
  · skip
    have hb2 := hb1 c2
    refine lv_aload_n hx hb dL_law_994 rfl (lv_at hl 5 rfl) ?_
    refine lv_iconst (v := 0) hx hb dL_law_995 (by decide) ?_
    refine l_lald F hG (k := 69) rfl hb2 dL_law_996 ?_
    refine lv_iload hx hb dL_law_997 (lv_at hl 0 rfl) ?_
    refine lv_i2l (v := (b1 : Int32).toInt64) hx hb dL_law_999 rfl ?_
    refine W.lcmp hx hb dL_law_1000 ?_
    refine lv_if_eq (tgt := 1006) hx hb dL_law_1001 (by decide) (fun _ => ?_) (fun c4 => absurd ((lg_cmp_eq _ _).mpr rfl) c4)
    refine lv_goto (tgt := 1257) hx hb dL_law_1006 (by decide) ?_
    refine W.widen (k := cells + 10) (n := slots + 100) (by omega) (by omega) ?_
    exact kk _ _ _ _ hI2 hG (lv_sub hl [2, 3, 4, 5, 6] rfl)
end LB
